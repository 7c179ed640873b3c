/-! ChaseLockerModel.<init>()V -/
def fX7_init (a0 : Nat) (s0 : AS) : Option AR :=
  nA s0 101 10 (fun q1 s2 =>
  sR s2 a0 11 10 q1 (fun s3 =>
  nA s3 100 10 (fun q4 s5 =>
  sR s5 a0 11 11 q4 (fun s6 =>
  nA s6 100 4112 (fun q7 s8 =>
  sR s8 a0 11 12 q7 (fun s9 =>
  nA s9 100 4112 (fun q10 s11 =>
  sR s11 a0 11 13 q10 (fun s12 =>
  nA s12 100 41120 (fun q13 s14 =>
  sR s14 a0 11 14 q13 (fun s15 =>
  nA s15 101 2 (fun q16 s17 =>
  sR s17 a0 11 16 q16 (fun s18 =>
  nA s18 100 500 (fun q19 s20 =>
  sR s20 a0 11 17 q19 (fun s21 =>
  sI s21 a0 11 20 ((-1)) (fun s22 =>
  nA s22 100 4112 (fun q23 s24 =>
  sR s24 a0 11 28 q23 (fun s25 =>
  nA s25 100 8 (fun q26 s27 =>
  sR s27 a0 11 29 q26 (fun s28 =>
  nA s28 100 10 (fun q29 s30 =>
  sR s30 a0 11 30 q29 (fun s31 =>
  nA s31 101 10 (fun q32 s33 =>
  sR s33 a0 11 31 q32 (fun s34 =>
  nA s34 100 10 (fun q35 s36 =>
  sR s36 a0 11 33 q35 (fun s37 =>
  nA s37 100 5511 (fun q38 s39 =>
  sR s39 a0 11 34 q38 (fun s40 =>
  nA s40 100 10 (fun q41 s42 =>
  sR s42 a0 11 35 q41 (fun s43 =>
  sI s43 a0 11 37 ((-1)) (fun s44 =>
  nA s44 100 501 (fun q45 s46 =>
  sR s46 a0 11 38 q45 (fun s47 =>
  nA s47 100 3000 (fun q48 s49 =>
  sR s49 a0 11 39 q48 (fun s50 =>
  some (.inl none, s50)))))))))))))))))))))))))))))))))))
set_option maxHeartbeats 4000000 in
theorem oX7_init {Γ : CX} (C : OKC Γ cX7_init RX7 none) (T : ∀ z ∈ (cx_c Γ).exceptionTable.toList, False) (hn : cx_nL Γ = 1) (hR : cx_fr Γ = 2 ∧ cx_lo Γ = 60) (hin : (cx_meth Γ).name = yX7_init.name) : ∀ (a0 : Nat) (s0 : AS), OK Γ 0 [(0, .ref a0)] [] (fX7_init a0 s0) s0 := by
  intro a0 s0
  unfold fX7_init
  refine ok_aload_n C 0 dX7_init_0 rfl ?_
  refine ok_objInit C kw_724 kw_43 kw_44 (by rw [hR.1]; decide) (by rw [hR.2]; exact Nat.le_of_ble_eq_true rfl) dX7_init_1 ?_
  refine ok_aload_n C 0 dX7_init_4 rfl ?_
  refine ok_bipush C (v := 10) dX7_init_5 (by decide) ?_
  refine ok_newZ C kw_129 dX7_init_7 (fun q1 s2 => ?_)
  refine ok_putRF C flX7_7_11 (by first | exact Or.inl ⟨_, rfl⟩ | exact Or.inr ⟨_, rfl⟩) hin dX7_init_9 (fun s3 _ => ?_)
  refine ok_aload_n C 0 dX7_init_12 rfl ?_
  refine ok_bipush C (v := 10) dX7_init_13 (by decide) ?_
  refine ok_newI C kw_131 dX7_init_15 (fun q4 s5 => ?_)
  refine ok_putRF C flX7_13_11 (by first | exact Or.inl ⟨_, rfl⟩ | exact Or.inr ⟨_, rfl⟩) hin dX7_init_17 (fun s6 _ => ?_)
  refine ok_aload_n C 0 dX7_init_20 rfl ?_
  refine ok_sipush C (v := 4112) dX7_init_21 (by decide) ?_
  refine ok_newI C kw_131 dX7_init_24 (fun q7 s8 => ?_)
  refine ok_putRF C flX7_17_11 (by first | exact Or.inl ⟨_, rfl⟩ | exact Or.inr ⟨_, rfl⟩) hin dX7_init_26 (fun s9 _ => ?_)
  refine ok_aload_n C 0 dX7_init_29 rfl ?_
  refine ok_sipush C (v := 4112) dX7_init_30 (by decide) ?_
  refine ok_newI C kw_131 dX7_init_33 (fun q10 s11 => ?_)
  refine ok_putRF C flX7_20_11 (by first | exact Or.inl ⟨_, rfl⟩ | exact Or.inr ⟨_, rfl⟩) hin dX7_init_35 (fun s12 _ => ?_)
  refine ok_aload_n C 0 dX7_init_38 rfl ?_
  refine ok_ldc C (v := 41120) kw_729 dX7_init_39 ?_
  refine ok_newI C kw_131 dX7_init_41 (fun q13 s14 => ?_)
  refine ok_putRF C flX7_24_11 (by first | exact Or.inl ⟨_, rfl⟩ | exact Or.inr ⟨_, rfl⟩) hin dX7_init_43 (fun s15 _ => ?_)
  refine ok_aload_n C 0 dX7_init_46 rfl ?_
  refine ok_iconst C (v := 2) dX7_init_47 (by decide) ?_
  refine ok_newZ C kw_129 dX7_init_48 (fun q16 s17 => ?_)
  refine ok_putRF C flX7_27_11 (by first | exact Or.inl ⟨_, rfl⟩ | exact Or.inr ⟨_, rfl⟩) hin dX7_init_50 (fun s18 _ => ?_)
  refine ok_aload_n C 0 dX7_init_53 rfl ?_
  refine ok_sipush C (v := 500) dX7_init_54 (by decide) ?_
  refine ok_newI C kw_131 dX7_init_57 (fun q19 s20 => ?_)
  refine ok_putRF C flX7_30_11 (by first | exact Or.inl ⟨_, rfl⟩ | exact Or.inr ⟨_, rfl⟩) hin dX7_init_59 (fun s21 _ => ?_)
  refine ok_aload_n C 0 dX7_init_62 rfl ?_
  refine ok_iconst C (v := (-1)) dX7_init_63 (by decide) ?_
  refine ok_putI C flX7_33_11 dX7_init_64 (fun s22 _ => ?_)
  refine ok_aload_n C 0 dX7_init_67 rfl ?_
  refine ok_sipush C (v := 4112) dX7_init_68 (by decide) ?_
  refine ok_newI C kw_131 dX7_init_71 (fun q23 s24 => ?_)
  refine ok_putRF C flX7_37_11 (by first | exact Or.inl ⟨_, rfl⟩ | exact Or.inr ⟨_, rfl⟩) hin dX7_init_73 (fun s25 _ => ?_)
  refine ok_aload_n C 0 dX7_init_76 rfl ?_
  refine ok_bipush C (v := 8) dX7_init_77 (by decide) ?_
  refine ok_newI C kw_131 dX7_init_79 (fun q26 s27 => ?_)
  refine ok_putRF C flX7_40_11 (by first | exact Or.inl ⟨_, rfl⟩ | exact Or.inr ⟨_, rfl⟩) hin dX7_init_81 (fun s28 _ => ?_)
  refine ok_aload_n C 0 dX7_init_84 rfl ?_
  refine ok_bipush C (v := 10) dX7_init_85 (by decide) ?_
  refine ok_newI C kw_131 dX7_init_87 (fun q29 s30 => ?_)
  refine ok_putRF C flX7_43_11 (by first | exact Or.inl ⟨_, rfl⟩ | exact Or.inr ⟨_, rfl⟩) hin dX7_init_89 (fun s31 _ => ?_)
  refine ok_aload_n C 0 dX7_init_92 rfl ?_
  refine ok_bipush C (v := 10) dX7_init_93 (by decide) ?_
  refine ok_newZ C kw_129 dX7_init_95 (fun q32 s33 => ?_)
  refine ok_putRF C flX7_46_11 (by first | exact Or.inl ⟨_, rfl⟩ | exact Or.inr ⟨_, rfl⟩) hin dX7_init_97 (fun s34 _ => ?_)
  refine ok_aload_n C 0 dX7_init_100 rfl ?_
  refine ok_bipush C (v := 10) dX7_init_101 (by decide) ?_
  refine ok_newI C kw_131 dX7_init_103 (fun q35 s36 => ?_)
  refine ok_putRF C flX7_49_11 (by first | exact Or.inl ⟨_, rfl⟩ | exact Or.inr ⟨_, rfl⟩) hin dX7_init_105 (fun s37 _ => ?_)
  refine ok_aload_n C 0 dX7_init_108 rfl ?_
  refine ok_sipush C (v := 5511) dX7_init_109 (by decide) ?_
  refine ok_newI C kw_131 dX7_init_112 (fun q38 s39 => ?_)
  refine ok_putRF C flX7_52_11 (by first | exact Or.inl ⟨_, rfl⟩ | exact Or.inr ⟨_, rfl⟩) hin dX7_init_114 (fun s40 _ => ?_)
  refine ok_aload_n C 0 dX7_init_117 rfl ?_
  refine ok_bipush C (v := 10) dX7_init_118 (by decide) ?_
  refine ok_newI C kw_131 dX7_init_120 (fun q41 s42 => ?_)
  refine ok_putRF C flX7_55_11 (by first | exact Or.inl ⟨_, rfl⟩ | exact Or.inr ⟨_, rfl⟩) hin dX7_init_122 (fun s43 _ => ?_)
  refine ok_aload_n C 0 dX7_init_125 rfl ?_
  refine ok_iconst C (v := (-1)) dX7_init_126 (by decide) ?_
  refine ok_putI C flX7_58_11 dX7_init_127 (fun s44 _ => ?_)
  refine ok_aload_n C 0 dX7_init_130 rfl ?_
  refine ok_sipush C (v := 501) dX7_init_131 (by decide) ?_
  refine ok_newI C kw_131 dX7_init_134 (fun q45 s46 => ?_)
  refine ok_putRF C flX7_61_11 (by first | exact Or.inl ⟨_, rfl⟩ | exact Or.inr ⟨_, rfl⟩) hin dX7_init_136 (fun s47 _ => ?_)
  refine ok_aload_n C 0 dX7_init_139 rfl ?_
  refine ok_sipush C (v := 3000) dX7_init_140 (by decide) ?_
  refine ok_newI C kw_131 dX7_init_143 (fun q48 s49 => ?_)
  refine ok_putRF C flX7_64_11 (by first | exact Or.inl ⟨_, rfl⟩ | exact Or.inr ⟨_, rfl⟩) hin dX7_init_145 (fun s50 _ => ?_)
  exact ok_vreturn C dX7_init_148
theorem ctX7_init {l : Launch} (hl : l.stackTraces = false) {D : va_G} {dA : Nat → ClassId} {B0 : Nat} (a0 : Nat) : Ct l D dA B0 yX7_init (.code yX7_init cX7_init 1 (none) :: ax_ALL) 2 60 [.ref a0] (fX7_init a0) :=
  Ct.of hl (by decide +kernel) (Nat.le_of_ble_eq_true rfl) fun Γ C _ _ _ _ e5 e6 e7 T hin => oX7_init C T e5 ⟨e6, e7⟩ hin a0 _
/-! ChaseLockerModel.thrown()I -/
def fX7_thrown (a0 : Nat) (s0 : AS) : Option AR :=
  gI s0 a0 11 0 (fun v1 =>
  some (.inl (some (.int v1)), s0))
set_option maxHeartbeats 4000000 in
theorem oX7_thrown {Γ : CX} (C : OKC Γ cX7_thrown RX7 (some (.int))) (T : ∀ z ∈ (cx_c Γ).exceptionTable.toList, False) (hn : cx_nL Γ = 1) (hR : cx_fr Γ = 1 ∧ cx_lo Γ = 60) (hin : (cx_meth Γ).name = yX7_thrown.name) : ∀ (a0 : Nat) (s0 : AS), OK Γ 0 [(0, .ref a0)] [] (fX7_thrown a0 s0) s0 := by
  intro a0 s0
  unfold fX7_thrown
  refine ok_aload_n C 0 dX7_thrown_0 rfl ?_
  refine ok_getI C frX7_67_11 dX7_thrown_1 (fun v1 => ?_)
  exact ok_ireturn C dX7_thrown_4
theorem ctX7_thrown {l : Launch} (hl : l.stackTraces = false) {D : va_G} {dA : Nat → ClassId} {B0 : Nat} (a0 : Nat) : Ct l D dA B0 yX7_thrown (.code yX7_thrown cX7_thrown 1 (some (.int)) :: ax_ALL) 1 60 [.ref a0] (fX7_thrown a0) :=
  Ct.of hl (by decide +kernel) (Nat.le_of_ble_eq_true rfl) fun Γ C _ _ _ _ e5 e6 e7 T hin => oX7_thrown C T e5 ⟨e6, e7⟩ hin a0 _
/-! ChaseLockerModel.in(III)Z -/
def fX7_in (x0 : Int32) (x1 : Int32) (x2 : Int32) (s0 : AS) : Option AR :=
  if x0 < x1 then (
    rZ 0 s0)
  else (
    if x2 < x0 then (
      rZ 0 s0)
    else (
      rZ 1 s0))
set_option maxHeartbeats 4000000 in
theorem oX7_in {Γ : CX} (C : OKC Γ cX7_in RX7 (some (.boolean))) (T : ∀ z ∈ (cx_c Γ).exceptionTable.toList, False) (hn : cx_nL Γ = 3) (hR : cx_fr Γ = 1 ∧ cx_lo Γ = 60) (hin : (cx_meth Γ).name = yX7_in.name) : ∀ (x0 : Int32) (x1 : Int32) (x2 : Int32) (s0 : AS), OK Γ 0 [(0, .int x0), (1, .int x1), (2, .int x2)] [] (fX7_in x0 x1 x2 s0) s0 := by
  intro x0 x1 x2 s0
  unfold fX7_in
  refine ok_iload_n C 0 dX7_in_0 rfl ?_
  refine ok_iload_n C 1 dX7_in_1 rfl ?_
  refine ok_icmp_lt C 14 dX7_in_2 (by decide) ?_ ?_
  · refine ok_iconst C (v := 0) dX7_in_14 (by decide) ?_
    exact ok_zreturn C dX7_in_15
  · refine ok_iload_n C 0 dX7_in_5 rfl ?_
    refine ok_iload_n C 2 dX7_in_6 rfl ?_
    refine ok_icmp_gt C 14 dX7_in_7 (by decide) ?_ ?_
    · refine ok_iconst C (v := 0) dX7_in_14 (by decide) ?_
      exact ok_zreturn C dX7_in_15
    · refine ok_iconst C (v := 1) dX7_in_10 (by decide) ?_
      refine ok_goto C 15 dX7_in_11 (by decide) ?_
      exact ok_zreturn C dX7_in_15
theorem ctX7_in {l : Launch} (hl : l.stackTraces = false) {D : va_G} {dA : Nat → ClassId} {B0 : Nat} (x0 : Int32) (x1 : Int32) (x2 : Int32) : Ct l D dA B0 yX7_in (.code yX7_in cX7_in 3 (some (.boolean)) :: ax_ALL) 1 60 [.int x0, .int x1, .int x2] (fX7_in x0 x1 x2) :=
  Ct.of hl (by decide +kernel) (Nat.le_of_ble_eq_true rfl) fun Γ C _ _ _ _ e5 e6 e7 T hin => oX7_in C T e5 ⟨e6, e7⟩ hin x0 x1 x2 _
/-! ChaseLockerModel.flag(Z)I -/
def fX7_flag (x0 : Int32) (s0 : AS) : Option AR :=
  if x0 = 0 then (
    some (.inl (some (.int 0)), s0))
  else (
    some (.inl (some (.int 1)), s0))
set_option maxHeartbeats 4000000 in
theorem oX7_flag {Γ : CX} (C : OKC Γ cX7_flag RX7 (some (.int))) (T : ∀ z ∈ (cx_c Γ).exceptionTable.toList, False) (hn : cx_nL Γ = 1) (hR : cx_fr Γ = 1 ∧ cx_lo Γ = 60) (hin : (cx_meth Γ).name = yX7_flag.name) : ∀ (x0 : Int32) (s0 : AS), OK Γ 0 [(0, .int x0)] [] (fX7_flag x0 s0) s0 := by
  intro x0 s0
  unfold fX7_flag
  refine ok_iload_n C 0 dX7_flag_0 rfl ?_
  refine ok_if_eq C 8 dX7_flag_1 (by decide) ?_ ?_
  · refine ok_iconst C (v := 0) dX7_flag_8 (by decide) ?_
    exact ok_ireturn C dX7_flag_9
  · refine ok_iconst C (v := 1) dX7_flag_4 (by decide) ?_
    refine ok_goto C 9 dX7_flag_5 (by decide) ?_
    exact ok_ireturn C dX7_flag_9
theorem ctX7_flag {l : Launch} (hl : l.stackTraces = false) {D : va_G} {dA : Nat → ClassId} {B0 : Nat} (x0 : Int32) : Ct l D dA B0 yX7_flag (.code yX7_flag cX7_flag 1 (some (.int)) :: ax_ALL) 1 60 [.int x0] (fX7_flag x0) :=
  Ct.of hl (by decide +kernel) (Nat.le_of_ble_eq_true rfl) fun Γ C _ _ _ _ e5 e6 e7 T hin => oX7_flag C T e5 ⟨e6, e7⟩ hin x0 _
/-! ChaseLockerModel.refuse(ZI)Z -/
def fX7_refuse_16  (a0 : Nat) (s0 : AS) : Option AR :=
  gI s0 a0 11 0 (fun v1 =>
  if v1 = 0 then (
    rZ 0 s0)
  else (
    rZ 1 s0))
def fX7_refuse (a0 : Nat) (x1 : Int32) (x2 : Int32) (s0 : AS) : Option AR :=
  gI s0 a0 11 0 (fun v1 =>
  if v1 = 0 then (
    if x1 = 0 then (
      fX7_refuse_16 a0 s0)
    else (
      sI s0 a0 11 0 x2 (fun s2 =>
      fX7_refuse_16 a0 s2)))
  else (
    fX7_refuse_16 a0 s0))
set_option maxHeartbeats 4000000 in
theorem oX7_refuse_16 {Γ : CX} (C : OKC Γ cX7_refuse RX7 (some (.boolean))) (T : ∀ z ∈ (cx_c Γ).exceptionTable.toList, False) (hn : cx_nL Γ = 3) (hR : cx_fr Γ = 1 ∧ cx_lo Γ = 60) (hin : (cx_meth Γ).name = yX7_refuse.name) : ∀ (a0 : Nat) (s0 : AS), OK Γ 16 [(0, .ref a0)] [] (fX7_refuse_16  a0 s0) s0 := by
  intro a0 s0
  unfold fX7_refuse_16
  refine ok_aload_n C 0 dX7_refuse_16 rfl ?_
  refine ok_getI C frX7_67_11 dX7_refuse_17 (fun v1 => ?_)
  refine ok_if_eq C 27 dX7_refuse_20 (by decide) ?_ ?_
  · refine ok_iconst C (v := 0) dX7_refuse_27 (by decide) ?_
    exact ok_zreturn C dX7_refuse_28
  · refine ok_iconst C (v := 1) dX7_refuse_23 (by decide) ?_
    refine ok_goto C 28 dX7_refuse_24 (by decide) ?_
    exact ok_zreturn C dX7_refuse_28
set_option maxHeartbeats 4000000 in
theorem oX7_refuse {Γ : CX} (C : OKC Γ cX7_refuse RX7 (some (.boolean))) (T : ∀ z ∈ (cx_c Γ).exceptionTable.toList, False) (hn : cx_nL Γ = 3) (hR : cx_fr Γ = 1 ∧ cx_lo Γ = 60) (hin : (cx_meth Γ).name = yX7_refuse.name) : ∀ (a0 : Nat) (x1 : Int32) (x2 : Int32) (s0 : AS), OK Γ 0 [(0, .ref a0), (1, .int x1), (2, .int x2)] [] (fX7_refuse a0 x1 x2 s0) s0 := by
  intro a0 x1 x2 s0
  unfold fX7_refuse
  refine ok_aload_n C 0 dX7_refuse_0 rfl ?_
  refine ok_getI C frX7_67_11 dX7_refuse_1 (fun v1 => ?_)
  refine ok_if_ne C 16 dX7_refuse_4 (by decide) ?_ ?_
  · refine OK.sub (lv' := [(0, .ref a0)]) [0] rfl ?_
    exact oX7_refuse_16 C T hn hR hin a0 s0
  · refine ok_iload_n C 1 dX7_refuse_7 rfl ?_
    refine ok_if_eq C 16 dX7_refuse_8 (by decide) ?_ ?_
    · refine OK.sub (lv' := [(0, .ref a0)]) [0] rfl ?_
      exact oX7_refuse_16 C T hn hR hin a0 s0
    · refine ok_aload_n C 0 dX7_refuse_11 rfl ?_
      refine ok_iload_n C 2 dX7_refuse_12 rfl ?_
      refine ok_putI C flX7_67_11 dX7_refuse_13 (fun s2 _ => ?_)
      refine OK.sub (lv' := [(0, .ref a0)]) [0] rfl ?_
      exact oX7_refuse_16 C T hn hR hin a0 s2
theorem ctX7_refuse {l : Launch} (hl : l.stackTraces = false) {D : va_G} {dA : Nat → ClassId} {B0 : Nat} (a0 : Nat) (x1 : Int32) (x2 : Int32) : Ct l D dA B0 yX7_refuse (.code yX7_refuse cX7_refuse 3 (some (.boolean)) :: ax_ALL) 1 60 [.ref a0, .int x1, .int x2] (fX7_refuse a0 x1 x2) :=
  Ct.of hl (by decide +kernel) (Nat.le_of_ble_eq_true rfl) fun Γ C _ _ _ _ e5 e6 e7 T hin => oX7_refuse C T e5 ⟨e6, e7⟩ hin a0 x1 x2 _
/-! ChaseLockerModel.notLoaded()Z -/
def fX7_notLoaded_18  (t0 : Nat) (t1 : Int32) (s0 : AS) : Option AR :=
  cV s0 t0 11 (fX7_refuse t0 t1 1 s0) (qI (fun v1 s2 =>
  rZ v1 s2))
def fX7_notLoaded (a0 : Nat) (s0 : AS) : Option AR :=
  sI s0 a0 11 0 0 (fun s1 =>
  gI s1 a0 11 1 (fun v2 =>
  if v2 = 0 then (
    fX7_notLoaded_18 a0 1 s1)
  else (
    fX7_notLoaded_18 a0 0 s1)))
set_option maxHeartbeats 4000000 in
theorem oX7_notLoaded_18 {Γ : CX} (C : OKC Γ cX7_notLoaded RX7 (some (.boolean))) (T : ∀ z ∈ (cx_c Γ).exceptionTable.toList, False) (hn : cx_nL Γ = 1) (hR : cx_fr Γ = 2 ∧ cx_lo Γ = 82) (hin : (cx_meth Γ).name = yX7_notLoaded.name) : ∀ (t0 : Nat) (t1 : Int32) (s0 : AS), OK Γ 18 [] [.int t1, .ref t0] (fX7_notLoaded_18  t0 t1 s0) s0 := by
  intro t0 t1 s0
  unfold fX7_notLoaded_18
  refine ok_iconst C (v := 1) dX7_notLoaded_18 (by decide) ?_
  refine ok_callV C T [.int t1, .int 1] (F := fX7_refuse t0 t1 1) (ctX7_refuse (C.2.2.2.2.2.2.2.2.1) t0 t1 1) vlX7_74 viX7_refuse rfl rfl (by decide) rfl (by rw [hR.1, hR.2]; decide) (Nat.le_of_ble_eq_true rfl) dX7_notLoaded_19 (ok_qI fun v1 s2 => ?_)
  exact ok_zreturn C dX7_notLoaded_22
set_option maxHeartbeats 4000000 in
theorem oX7_notLoaded {Γ : CX} (C : OKC Γ cX7_notLoaded RX7 (some (.boolean))) (T : ∀ z ∈ (cx_c Γ).exceptionTable.toList, False) (hn : cx_nL Γ = 1) (hR : cx_fr Γ = 2 ∧ cx_lo Γ = 82) (hin : (cx_meth Γ).name = yX7_notLoaded.name) : ∀ (a0 : Nat) (s0 : AS), OK Γ 0 [(0, .ref a0)] [] (fX7_notLoaded a0 s0) s0 := by
  intro a0 s0
  unfold fX7_notLoaded
  refine ok_aload_n C 0 dX7_notLoaded_0 rfl ?_
  refine ok_iconst C (v := 0) dX7_notLoaded_1 (by decide) ?_
  refine ok_putI C flX7_67_11 dX7_notLoaded_2 (fun s1 _ => ?_)
  refine ok_aload_n C 0 dX7_notLoaded_5 rfl ?_
  refine ok_aload_n C 0 dX7_notLoaded_6 rfl ?_
  refine ok_getI C frX7_70_11 dX7_notLoaded_7 (fun v2 => ?_)
  refine ok_if_ne C 17 dX7_notLoaded_10 (by decide) ?_ ?_
  · refine ok_iconst C (v := 0) dX7_notLoaded_17 (by decide) ?_
    refine OK.sub (lv' := []) [] rfl ?_
    exact oX7_notLoaded_18 C T hn hR hin a0 0 s1
  · refine ok_iconst C (v := 1) dX7_notLoaded_13 (by decide) ?_
    refine ok_goto C 18 dX7_notLoaded_14 (by decide) ?_
    refine OK.sub (lv' := []) [] rfl ?_
    exact oX7_notLoaded_18 C T hn hR hin a0 1 s1
theorem ctX7_notLoaded {l : Launch} (hl : l.stackTraces = false) {D : va_G} {dA : Nat → ClassId} {B0 : Nat} (a0 : Nat) : Ct l D dA B0 yX7_notLoaded (.code yX7_notLoaded cX7_notLoaded 1 (some (.boolean)) :: ax_ALL) 2 82 [.ref a0] (fX7_notLoaded a0) :=
  Ct.of hl (by decide +kernel) (Nat.le_of_ble_eq_true rfl) fun Γ C _ _ _ _ e5 e6 e7 T hin => oX7_notLoaded C T e5 ⟨e6, e7⟩ hin a0 _
/-! ChaseLockerModel.append(IIIII)I -/
def fX7_append_113  (a0 : Nat) (s0 : AS) : Option AR :=
  gI s0 a0 11 18 (fun v1 =>
  sI s0 a0 11 18 (v1 + 20) (fun s2 =>
  gI s2 a0 11 18 (fun v3 =>
  some (.inl (some (.int v3)), s2))))
def fX7_append_76 (r23 : Nat → Int32 → Int32 → Int32 → Int32 → Int32 → Int32 → AS → Option AR) (a0 : Nat) (x1 : Int32) (x2 : Int32) (x3 : Int32) (x4 : Int32) (x5 : Int32) (x6 : Int32) (t0 : Int32) (s0 : AS) : Option AR :=
  gR s0 a0 11 17 (fun q1 =>
  gI s0 a0 11 18 (fun v2 =>
  if (4 : Int32) = 0 then none else (
  uI s0 q1 (v2 + x6) ((t0 >>> ((24 - (8 * (x6 - x6 / 4 * 4))) &&& 31)) &&& 255) (fun s3 =>
  lt (x6 + 1) (fun v4 =>
  r23 a0 x1 x2 x3 x4 x5 v4 s3)))))
def fX7_append_23  : Nat → Nat → Int32 → Int32 → Int32 → Int32 → Int32 → Int32 → AS → Option AR
  | 0, _, _, _, _, _, _, _, _ => none
  | n + 1, a0, x1, x2, x3, x4, x5, x6, s0 =>
    if (20 : Int32) ≤ x6 then (
      fX7_append_113 a0 s0)
    else (
      if (4 : Int32) ≤ x6 then (
        if (8 : Int32) ≤ x6 then (
          if (12 : Int32) ≤ x6 then (
            if (16 : Int32) ≤ x6 then (
              fX7_append_76 (fX7_append_23 n) a0 x1 x2 x3 x4 x5 x6 x5 s0)
            else (
              fX7_append_76 (fX7_append_23 n) a0 x1 x2 x3 x4 x5 x6 x4 s0))
          else (
            fX7_append_76 (fX7_append_23 n) a0 x1 x2 x3 x4 x5 x6 x3 s0))
        else (
          fX7_append_76 (fX7_append_23 n) a0 x1 x2 x3 x4 x5 x6 x2 s0))
      else (
        fX7_append_76 (fX7_append_23 n) a0 x1 x2 x3 x4 x5 x6 x1 s0))
def fX7_append (a0 : Nat) (x1 : Int32) (x2 : Int32) (x3 : Int32) (x4 : Int32) (x5 : Int32) (s0 : AS) : Option AR :=
  sI s0 a0 11 0 0 (fun s1 =>
  gI s1 a0 11 18 (fun v2 =>
  if (v2 + 20) ≤ (500 : Int32) then (
    fX7_append_23 FU a0 x1 x2 x3 x4 x5 0 s1)
  else (
    some (.inl (some (.int ((-1)))), s1))))
set_option maxHeartbeats 4000000 in
theorem oX7_append_113 {Γ : CX} (C : OKC Γ cX7_append RX7 (some (.int))) (T : ∀ z ∈ (cx_c Γ).exceptionTable.toList, False) (hn : cx_nL Γ = 8) (hR : cx_fr Γ = 1 ∧ cx_lo Γ = 60) (hin : (cx_meth Γ).name = yX7_append.name) : ∀ (a0 : Nat) (s0 : AS), OK Γ 113 [(0, .ref a0)] [] (fX7_append_113  a0 s0) s0 := by
  intro a0 s0
  unfold fX7_append_113
  refine ok_aload_n C 0 dX7_append_113 rfl ?_
  refine ok_dup C dX7_append_114 rfl ?_
  refine ok_getI C frX7_78_11 dX7_append_115 (fun v1 => ?_)
  refine ok_bipush C (v := 20) dX7_append_118 (by decide) ?_
  refine ok_iadd C dX7_append_120 ?_
  refine ok_putI C flX7_78_11 dX7_append_121 (fun s2 _ => ?_)
  refine ok_aload_n C 0 dX7_append_124 rfl ?_
  refine ok_getI C frX7_78_11 dX7_append_125 (fun v3 => ?_)
  exact ok_ireturn C dX7_append_128
set_option maxHeartbeats 4000000 in
theorem oX7_append_76 {Γ : CX} (C : OKC Γ cX7_append RX7 (some (.int))) (T : ∀ z ∈ (cx_c Γ).exceptionTable.toList, False) (hn : cx_nL Γ = 8) (hR : cx_fr Γ = 1 ∧ cx_lo Γ = 60) (hin : (cx_meth Γ).name = yX7_append.name) {r23 : Nat → Int32 → Int32 → Int32 → Int32 → Int32 → Int32 → AS → Option AR} (h23 : ∀ (a0 : Nat) (x1 : Int32) (x2 : Int32) (x3 : Int32) (x4 : Int32) (x5 : Int32) (x6 : Int32) (s0 : AS), OK Γ 23 [(0, .ref a0), (1, .int x1), (2, .int x2), (3, .int x3), (4, .int x4), (5, .int x5), (6, .int x6)] [] (r23 a0 x1 x2 x3 x4 x5 x6 s0) s0) : ∀ (a0 : Nat) (x1 : Int32) (x2 : Int32) (x3 : Int32) (x4 : Int32) (x5 : Int32) (x6 : Int32) (t0 : Int32) (s0 : AS), OK Γ 76 [(0, .ref a0), (1, .int x1), (2, .int x2), (3, .int x3), (4, .int x4), (5, .int x5), (6, .int x6)] [.int t0] (fX7_append_76 r23 a0 x1 x2 x3 x4 x5 x6 t0 s0) s0 := by
  intro a0 x1 x2 x3 x4 x5 x6 t0 s0
  unfold fX7_append_76
  refine ok_istore C (i := 7) [(7, .int t0), (0, .ref a0), (1, .int x1), (2, .int x2), (3, .int x3), (4, .int x4), (5, .int x5), (6, .int x6)] dX7_append_76 (by rw [hn]; decide) rfl ?_
  refine ok_aload_n C 1 dX7_append_78 rfl ?_
  refine ok_getR C frX7_30_11 dX7_append_79 (fun q1 => ?_)
  refine ok_aload_n C 1 dX7_append_82 rfl ?_
  refine ok_getI C frX7_78_11 dX7_append_83 (fun v2 => ?_)
  refine ok_iload C 7 dX7_append_86 rfl ?_
  refine ok_iadd C dX7_append_88 ?_
  refine ok_iload C 0 dX7_append_89 rfl ?_
  refine ok_bipush C (v := 24) dX7_append_91 (by decide) ?_
  refine ok_bipush C (v := 8) dX7_append_93 (by decide) ?_
  refine ok_iload C 7 dX7_append_95 rfl ?_
  refine ok_iconst C (v := 4) dX7_append_97 (by decide) ?_
  refine ok_irem C dX7_append_98 ?_
  refine ok_imul C dX7_append_99 ?_
  refine ok_isub C dX7_append_100 ?_
  refine ok_ishr C dX7_append_101 ?_
  refine ok_sipush C (v := 255) dX7_append_102 (by decide) ?_
  refine ok_iand C dX7_append_105 ?_
  refine ok_iast C dX7_append_106 (fun s3 _ => ?_)
  refine ok_iincL C 7 (c := 1) (fun v4 => [(6, .int v4), (7, .int t0), (0, .ref a0), (1, .int x1), (2, .int x2), (3, .int x3), (4, .int x4), (5, .int x5)]) dX7_append_107 rfl rfl (by rw [hn]; decide) (fun _ => rfl) (fun v4 => ?_)
  refine ok_goto C 23 dX7_append_110 (by decide) ?_
  refine OK.sub (lv' := [(0, .ref a0), (1, .int x1), (2, .int x2), (3, .int x3), (4, .int x4), (5, .int x5), (6, .int v4)]) [2, 3, 4, 5, 6, 7, 0] rfl ?_
  exact h23 a0 x1 x2 x3 x4 x5 v4 s3
set_option maxHeartbeats 4000000 in
theorem oX7_append_23 {Γ : CX} (C : OKC Γ cX7_append RX7 (some (.int))) (T : ∀ z ∈ (cx_c Γ).exceptionTable.toList, False) (hn : cx_nL Γ = 8) (hR : cx_fr Γ = 1 ∧ cx_lo Γ = 60) (hin : (cx_meth Γ).name = yX7_append.name) : ∀ (n : Nat) (a0 : Nat) (x1 : Int32) (x2 : Int32) (x3 : Int32) (x4 : Int32) (x5 : Int32) (x6 : Int32) (s0 : AS), OK Γ 23 [(0, .ref a0), (1, .int x1), (2, .int x2), (3, .int x3), (4, .int x4), (5, .int x5), (6, .int x6)] [] (fX7_append_23 n a0 x1 x2 x3 x4 x5 x6 s0) s0 := by
  intro n
  induction n with
  | zero => intro _ _ _ _ _ _ _ s0; exact OK.none
  | succ n ih =>
    intro a0 x1 x2 x3 x4 x5 x6 s0
    rw [fX7_append_23]
    refine ok_iload C 6 dX7_append_23 rfl ?_
    refine ok_bipush C (v := 20) dX7_append_25 (by decide) ?_
    refine ok_icmp_ge C 113 dX7_append_27 (by decide) ?_ ?_
    · refine OK.sub (lv' := [(0, .ref a0)]) [0] rfl ?_
      exact oX7_append_113 C T hn hR hin a0 s0
    · refine ok_iload C 6 dX7_append_30 rfl ?_
      refine ok_iconst C (v := 4) dX7_append_32 (by decide) ?_
      refine ok_icmp_ge C 40 dX7_append_33 (by decide) ?_ ?_
      · refine ok_iload C 6 dX7_append_40 rfl ?_
        refine ok_bipush C (v := 8) dX7_append_42 (by decide) ?_
        refine ok_icmp_ge C 51 dX7_append_44 (by decide) ?_ ?_
        · refine ok_iload C 6 dX7_append_51 rfl ?_
          refine ok_bipush C (v := 12) dX7_append_53 (by decide) ?_
          refine ok_icmp_ge C 62 dX7_append_55 (by decide) ?_ ?_
          · refine ok_iload C 6 dX7_append_62 rfl ?_
            refine ok_bipush C (v := 16) dX7_append_64 (by decide) ?_
            refine ok_icmp_ge C 74 dX7_append_66 (by decide) ?_ ?_
            · refine ok_iload C 5 dX7_append_74 rfl ?_
              exact oX7_append_76 C T hn hR hin ih a0 x1 x2 x3 x4 x5 x6 x5 s0
            · refine ok_iload C 4 dX7_append_69 rfl ?_
              refine ok_goto C 76 dX7_append_71 (by decide) ?_
              exact oX7_append_76 C T hn hR hin ih a0 x1 x2 x3 x4 x5 x6 x4 s0
          · refine ok_iload_n C 3 dX7_append_58 rfl ?_
            refine ok_goto C 76 dX7_append_59 (by decide) ?_
            exact oX7_append_76 C T hn hR hin ih a0 x1 x2 x3 x4 x5 x6 x3 s0
        · refine ok_iload_n C 2 dX7_append_47 rfl ?_
          refine ok_goto C 76 dX7_append_48 (by decide) ?_
          exact oX7_append_76 C T hn hR hin ih a0 x1 x2 x3 x4 x5 x6 x2 s0
      · refine ok_iload_n C 1 dX7_append_36 rfl ?_
        refine ok_goto C 76 dX7_append_37 (by decide) ?_
        exact oX7_append_76 C T hn hR hin ih a0 x1 x2 x3 x4 x5 x6 x1 s0
set_option maxHeartbeats 4000000 in
theorem oX7_append {Γ : CX} (C : OKC Γ cX7_append RX7 (some (.int))) (T : ∀ z ∈ (cx_c Γ).exceptionTable.toList, False) (hn : cx_nL Γ = 8) (hR : cx_fr Γ = 1 ∧ cx_lo Γ = 60) (hin : (cx_meth Γ).name = yX7_append.name) : ∀ (a0 : Nat) (x1 : Int32) (x2 : Int32) (x3 : Int32) (x4 : Int32) (x5 : Int32) (s0 : AS), OK Γ 0 [(0, .ref a0), (1, .int x1), (2, .int x2), (3, .int x3), (4, .int x4), (5, .int x5)] [] (fX7_append a0 x1 x2 x3 x4 x5 s0) s0 := by
  intro a0 x1 x2 x3 x4 x5 s0
  unfold fX7_append
  refine ok_aload_n C 0 dX7_append_0 rfl ?_
  refine ok_iconst C (v := 0) dX7_append_1 (by decide) ?_
  refine ok_putI C flX7_67_11 dX7_append_2 (fun s1 _ => ?_)
  refine ok_aload_n C 0 dX7_append_5 rfl ?_
  refine ok_getI C frX7_78_11 dX7_append_6 (fun v2 => ?_)
  refine ok_bipush C (v := 20) dX7_append_9 (by decide) ?_
  refine ok_iadd C dX7_append_11 ?_
  refine ok_sipush C (v := 500) dX7_append_12 (by decide) ?_
  refine ok_icmp_le C 20 dX7_append_15 (by decide) ?_ ?_
  · refine ok_iconst C (v := 0) dX7_append_20 (by decide) ?_
    refine ok_istore C (i := 6) [(6, .int 0), (0, .ref a0), (1, .int x1), (2, .int x2), (3, .int x3), (4, .int x4), (5, .int x5)] dX7_append_21 (by rw [hn]; decide) rfl ?_
    refine OK.sub (lv' := [(0, .ref a0), (1, .int x1), (2, .int x2), (3, .int x3), (4, .int x4), (5, .int x5), (6, .int 0)]) [1, 2, 3, 4, 5, 6, 0] rfl ?_
    exact oX7_append_23 C T hn hR hin FU a0 x1 x2 x3 x4 x5 0 s1
  · refine ok_iconst C (v := (-1)) dX7_append_18 (by decide) ?_
    exact ok_ireturn C dX7_append_19
theorem ctX7_append {l : Launch} (hl : l.stackTraces = false) {D : va_G} {dA : Nat → ClassId} {B0 : Nat} (a0 : Nat) (x1 : Int32) (x2 : Int32) (x3 : Int32) (x4 : Int32) (x5 : Int32) : Ct l D dA B0 yX7_append (.code yX7_append cX7_append 8 (some (.int)) :: ax_ALL) 1 60 [.ref a0, .int x1, .int x2, .int x3, .int x4, .int x5] (fX7_append a0 x1 x2 x3 x4 x5) :=
  Ct.of hl (by decide +kernel) (Nat.le_of_ble_eq_true rfl) fun Γ C _ _ _ _ e5 e6 e7 T hin => oX7_append C T e5 ⟨e6, e7⟩ hin a0 x1 x2 x3 x4 x5 _
/-! ChaseLockerModel.buffered()I -/
def fX7_buffered (a0 : Nat) (s0 : AS) : Option AR :=
  sI s0 a0 11 0 0 (fun s1 =>
  gI s1 a0 11 18 (fun v2 =>
  some (.inl (some (.int v2)), s1)))
set_option maxHeartbeats 4000000 in
theorem oX7_buffered {Γ : CX} (C : OKC Γ cX7_buffered RX7 (some (.int))) (T : ∀ z ∈ (cx_c Γ).exceptionTable.toList, False) (hn : cx_nL Γ = 1) (hR : cx_fr Γ = 1 ∧ cx_lo Γ = 60) (hin : (cx_meth Γ).name = yX7_buffered.name) : ∀ (a0 : Nat) (s0 : AS), OK Γ 0 [(0, .ref a0)] [] (fX7_buffered a0 s0) s0 := by
  intro a0 s0
  unfold fX7_buffered
  refine ok_aload_n C 0 dX7_buffered_0 rfl ?_
  refine ok_iconst C (v := 0) dX7_buffered_1 (by decide) ?_
  refine ok_putI C flX7_67_11 dX7_buffered_2 (fun s1 _ => ?_)
  refine ok_aload_n C 0 dX7_buffered_5 rfl ?_
  refine ok_getI C frX7_78_11 dX7_buffered_6 (fun v2 => ?_)
  exact ok_ireturn C dX7_buffered_9
theorem ctX7_buffered {l : Launch} (hl : l.stackTraces = false) {D : va_G} {dA : Nat → ClassId} {B0 : Nat} (a0 : Nat) : Ct l D dA B0 yX7_buffered (.code yX7_buffered cX7_buffered 1 (some (.int)) :: ax_ALL) 1 60 [.ref a0] (fX7_buffered a0) :=
  Ct.of hl (by decide +kernel) (Nat.le_of_ble_eq_true rfl) fun Γ C _ _ _ _ e5 e6 e7 T hin => oX7_buffered C T e5 ⟨e6, e7⟩ hin a0 _
/-! ChaseLockerModel.parseError()I -/
def fX7_parseError (a0 : Nat) (s0 : AS) : Option AR :=
  sI s0 a0 11 0 0 (fun s1 =>
  gI s1 a0 11 19 (fun v2 =>
  some (.inl (some (.int v2)), s1)))
set_option maxHeartbeats 4000000 in
theorem oX7_parseError {Γ : CX} (C : OKC Γ cX7_parseError RX7 (some (.int))) (T : ∀ z ∈ (cx_c Γ).exceptionTable.toList, False) (hn : cx_nL Γ = 1) (hR : cx_fr Γ = 1 ∧ cx_lo Γ = 60) (hin : (cx_meth Γ).name = yX7_parseError.name) : ∀ (a0 : Nat) (s0 : AS), OK Γ 0 [(0, .ref a0)] [] (fX7_parseError a0 s0) s0 := by
  intro a0 s0
  unfold fX7_parseError
  refine ok_aload_n C 0 dX7_parseError_0 rfl ?_
  refine ok_iconst C (v := 0) dX7_parseError_1 (by decide) ?_
  refine ok_putI C flX7_67_11 dX7_parseError_2 (fun s1 _ => ?_)
  refine ok_aload_n C 0 dX7_parseError_5 rfl ?_
  refine ok_getI C frX7_81_11 dX7_parseError_6 (fun v2 => ?_)
  exact ok_ireturn C dX7_parseError_9
theorem ctX7_parseError {l : Launch} (hl : l.stackTraces = false) {D : va_G} {dA : Nat → ClassId} {B0 : Nat} (a0 : Nat) : Ct l D dA B0 yX7_parseError (.code yX7_parseError cX7_parseError 1 (some (.int)) :: ax_ALL) 1 60 [.ref a0] (fX7_parseError a0) :=
  Ct.of hl (by decide +kernel) (Nat.le_of_ble_eq_true rfl) fun Γ C _ _ _ _ e5 e6 e7 T hin => oX7_parseError C T e5 ⟨e6, e7⟩ hin a0 _
/-! ChaseLockerModel.errorPosition()I -/
def fX7_errorPosition (a0 : Nat) (s0 : AS) : Option AR :=
  sI s0 a0 11 0 0 (fun s1 =>
  gI s1 a0 11 20 (fun v2 =>
  some (.inl (some (.int v2)), s1)))
set_option maxHeartbeats 4000000 in
theorem oX7_errorPosition {Γ : CX} (C : OKC Γ cX7_errorPosition RX7 (some (.int))) (T : ∀ z ∈ (cx_c Γ).exceptionTable.toList, False) (hn : cx_nL Γ = 1) (hR : cx_fr Γ = 1 ∧ cx_lo Γ = 60) (hin : (cx_meth Γ).name = yX7_errorPosition.name) : ∀ (a0 : Nat) (s0 : AS), OK Γ 0 [(0, .ref a0)] [] (fX7_errorPosition a0 s0) s0 := by
  intro a0 s0
  unfold fX7_errorPosition
  refine ok_aload_n C 0 dX7_errorPosition_0 rfl ?_
  refine ok_iconst C (v := 0) dX7_errorPosition_1 (by decide) ?_
  refine ok_putI C flX7_67_11 dX7_errorPosition_2 (fun s1 _ => ?_)
  refine ok_aload_n C 0 dX7_errorPosition_5 rfl ?_
  refine ok_getI C frX7_33_11 dX7_errorPosition_6 (fun v2 => ?_)
  exact ok_ireturn C dX7_errorPosition_9
theorem ctX7_errorPosition {l : Launch} (hl : l.stackTraces = false) {D : va_G} {dA : Nat → ClassId} {B0 : Nat} (a0 : Nat) : Ct l D dA B0 yX7_errorPosition (.code yX7_errorPosition cX7_errorPosition 1 (some (.int)) :: ax_ALL) 1 60 [.ref a0] (fX7_errorPosition a0) :=
  Ct.of hl (by decide +kernel) (Nat.le_of_ble_eq_true rfl) fun Γ C _ _ _ _ e5 e6 e7 T hin => oX7_errorPosition C T e5 ⟨e6, e7⟩ hin a0 _
/-! ChaseLockerModel.seen(I)I -/
def fX7_seen (a0 : Nat) (x1 : Int32) (s0 : AS) : Option AR :=
  gI s0 a0 11 21 (fun v1 =>
  if v1 ≤ x1 then (
    some (.inl (some (.int ((-1)))), s0))
  else (
    gR s0 a0 11 17 (fun q2 =>
    aI s0 q2 100 x1 (fun v3 =>
    some (.inl (some (.int v3)), s0)))))
set_option maxHeartbeats 4000000 in
theorem oX7_seen {Γ : CX} (C : OKC Γ cX7_seen RX7 (some (.int))) (T : ∀ z ∈ (cx_c Γ).exceptionTable.toList, False) (hn : cx_nL Γ = 2) (hR : cx_fr Γ = 1 ∧ cx_lo Γ = 60) (hin : (cx_meth Γ).name = yX7_seen.name) : ∀ (a0 : Nat) (x1 : Int32) (s0 : AS), OK Γ 0 [(0, .ref a0), (1, .int x1)] [] (fX7_seen a0 x1 s0) s0 := by
  intro a0 x1 s0
  unfold fX7_seen
  refine ok_iload_n C 1 dX7_seen_0 rfl ?_
  refine ok_aload_n C 0 dX7_seen_1 rfl ?_
  refine ok_getI C frX7_84_11 dX7_seen_2 (fun v1 => ?_)
  refine ok_icmp_ge C 17 dX7_seen_5 (by decide) ?_ ?_
  · refine ok_iconst C (v := (-1)) dX7_seen_17 (by decide) ?_
    exact ok_ireturn C dX7_seen_18
  · refine ok_aload_n C 0 dX7_seen_8 rfl ?_
    refine ok_getR C frX7_30_11 dX7_seen_9 (fun q2 => ?_)
    refine ok_iload_n C 1 dX7_seen_12 rfl ?_
    refine ok_iald C dX7_seen_13 (fun v3 => ?_)
    refine ok_goto C 18 dX7_seen_14 (by decide) ?_
    exact ok_ireturn C dX7_seen_18
theorem ctX7_seen {l : Launch} (hl : l.stackTraces = false) {D : va_G} {dA : Nat → ClassId} {B0 : Nat} (a0 : Nat) (x1 : Int32) : Ct l D dA B0 yX7_seen (.code yX7_seen cX7_seen 2 (some (.int)) :: ax_ALL) 1 60 [.ref a0, .int x1] (fX7_seen a0 x1) :=
  Ct.of hl (by decide +kernel) (Nat.le_of_ble_eq_true rfl) fun Γ C _ _ _ _ e5 e6 e7 T hin => oX7_seen C T e5 ⟨e6, e7⟩ hin a0 x1 _
/-! ChaseLockerModel.isSmall(I)Z -/
def fX7_isSmall (x0 : Int32) (s0 : AS) : Option AR :=
  if x0 < (97 : Int32) then (
    rZ 0 s0)
  else (
    if (122 : Int32) < x0 then (
      rZ 0 s0)
    else (
      rZ 1 s0))
set_option maxHeartbeats 4000000 in
theorem oX7_isSmall {Γ : CX} (C : OKC Γ cX7_isSmall RX7 (some (.boolean))) (T : ∀ z ∈ (cx_c Γ).exceptionTable.toList, False) (hn : cx_nL Γ = 1) (hR : cx_fr Γ = 1 ∧ cx_lo Γ = 60) (hin : (cx_meth Γ).name = yX7_isSmall.name) : ∀ (x0 : Int32) (s0 : AS), OK Γ 0 [(0, .int x0)] [] (fX7_isSmall x0 s0) s0 := by
  intro x0 s0
  unfold fX7_isSmall
  refine ok_iload_n C 0 dX7_isSmall_0 rfl ?_
  refine ok_bipush C (v := 97) dX7_isSmall_1 (by decide) ?_
  refine ok_icmp_lt C 16 dX7_isSmall_3 (by decide) ?_ ?_
  · refine ok_iconst C (v := 0) dX7_isSmall_16 (by decide) ?_
    exact ok_zreturn C dX7_isSmall_17
  · refine ok_iload_n C 0 dX7_isSmall_6 rfl ?_
    refine ok_bipush C (v := 122) dX7_isSmall_7 (by decide) ?_
    refine ok_icmp_gt C 16 dX7_isSmall_9 (by decide) ?_ ?_
    · refine ok_iconst C (v := 0) dX7_isSmall_16 (by decide) ?_
      exact ok_zreturn C dX7_isSmall_17
    · refine ok_iconst C (v := 1) dX7_isSmall_12 (by decide) ?_
      refine ok_goto C 17 dX7_isSmall_13 (by decide) ?_
      exact ok_zreturn C dX7_isSmall_17
theorem ctX7_isSmall {l : Launch} (hl : l.stackTraces = false) {D : va_G} {dA : Nat → ClassId} {B0 : Nat} (x0 : Int32) : Ct l D dA B0 yX7_isSmall (.code yX7_isSmall cX7_isSmall 1 (some (.boolean)) :: ax_ALL) 1 60 [.int x0] (fX7_isSmall x0) :=
  Ct.of hl (by decide +kernel) (Nat.le_of_ble_eq_true rfl) fun Γ C _ _ _ _ e5 e6 e7 T hin => oX7_isSmall C T e5 ⟨e6, e7⟩ hin x0 _
/-! ChaseLockerModel.isDigit(I)Z -/
def fX7_isDigit (x0 : Int32) (s0 : AS) : Option AR :=
  if x0 < (48 : Int32) then (
    rZ 0 s0)
  else (
    if (57 : Int32) < x0 then (
      rZ 0 s0)
    else (
      rZ 1 s0))
set_option maxHeartbeats 4000000 in
theorem oX7_isDigit {Γ : CX} (C : OKC Γ cX7_isDigit RX7 (some (.boolean))) (T : ∀ z ∈ (cx_c Γ).exceptionTable.toList, False) (hn : cx_nL Γ = 1) (hR : cx_fr Γ = 1 ∧ cx_lo Γ = 60) (hin : (cx_meth Γ).name = yX7_isDigit.name) : ∀ (x0 : Int32) (s0 : AS), OK Γ 0 [(0, .int x0)] [] (fX7_isDigit x0 s0) s0 := by
  intro x0 s0
  unfold fX7_isDigit
  refine ok_iload_n C 0 dX7_isDigit_0 rfl ?_
  refine ok_bipush C (v := 48) dX7_isDigit_1 (by decide) ?_
  refine ok_icmp_lt C 16 dX7_isDigit_3 (by decide) ?_ ?_
  · refine ok_iconst C (v := 0) dX7_isDigit_16 (by decide) ?_
    exact ok_zreturn C dX7_isDigit_17
  · refine ok_iload_n C 0 dX7_isDigit_6 rfl ?_
    refine ok_bipush C (v := 57) dX7_isDigit_7 (by decide) ?_
    refine ok_icmp_gt C 16 dX7_isDigit_9 (by decide) ?_ ?_
    · refine ok_iconst C (v := 0) dX7_isDigit_16 (by decide) ?_
      exact ok_zreturn C dX7_isDigit_17
    · refine ok_iconst C (v := 1) dX7_isDigit_12 (by decide) ?_
      refine ok_goto C 17 dX7_isDigit_13 (by decide) ?_
      exact ok_zreturn C dX7_isDigit_17
theorem ctX7_isDigit {l : Launch} (hl : l.stackTraces = false) {D : va_G} {dA : Nat → ClassId} {B0 : Nat} (x0 : Int32) : Ct l D dA B0 yX7_isDigit (.code yX7_isDigit cX7_isDigit 1 (some (.boolean)) :: ax_ALL) 1 60 [.int x0] (fX7_isDigit x0) :=
  Ct.of hl (by decide +kernel) (Nat.le_of_ble_eq_true rfl) fun Γ C _ _ _ _ e5 e6 e7 T hin => oX7_isDigit C T e5 ⟨e6, e7⟩ hin x0 _
/-! ChaseLockerModel.token()V -/
def fX7_token_232  (a0 : Nat) (t0 : Nat) (t1 : Int32) (s0 : AS) : Option AR :=
  sI s0 t0 11 24 t1 (fun s1 =>
  gI s1 a0 11 22 (fun v2 =>
  sI s1 a0 11 22 (v2 + 1) (fun s3 =>
  some (.inl none, s3))))
def fX7_token_214  (t0 : Nat) (t1 : Int32) (s0 : AS) : Option AR :=
  sI s0 t0 11 24 t1 (fun s1 =>
  some (.inl none, s1))
def fX7_token_195  (a0 : Nat) (s0 : AS) : Option AR :=
  gI s0 a0 11 22 (fun v1 =>
  gI s0 a0 11 23 (fun v2 =>
  if (v1 - v2) ≤ (3 : Int32) then (
    fX7_token_214 a0 2 s0)
  else (
    fX7_token_214 a0 4 s0)))
def fX7_token_179 (r128 : Nat → AS → Option AR) (a0 : Nat) (t0 : Nat) (t1 : Int32) (s0 : AS) : Option AR :=
  sI s0 t0 11 25 t1 (fun s1 =>
  gI s1 a0 11 22 (fun v2 =>
  sI s1 a0 11 22 (v2 + 1) (fun s3 =>
  r128 a0 s3)))
def fX7_token_128  : Nat → Nat → AS → Option AR
  | 0, _, _ => none
  | n + 1, a0, s0 =>
    gI s0 a0 11 22 (fun v1 =>
    cV s0 a0 11 (fX7_seen a0 v1 s0) (qI (fun v2 s3 =>
    cS s3 (fX7_isDigit v2 s3) (qI (fun v4 s5 =>
    if v4 = 0 then (
      fX7_token_195 a0 s5)
    else (
      gI s5 a0 11 22 (fun v6 =>
      gI s5 a0 11 23 (fun v7 =>
      if (3 : Int32) ≤ (v6 - v7) then (
        fX7_token_179 (fX7_token_128 n) a0 a0 0 s5)
      else (
        gI s5 a0 11 25 (fun v8 =>
        gI s5 a0 11 22 (fun v9 =>
        cV s5 a0 11 (fX7_seen a0 v9 s5) (qI (fun v10 s11 =>
        fX7_token_179 (fX7_token_128 n) a0 a0 (((10 * v8) + v10) - 48) s11)))))))))))))
def fX7_token_110  (t0 : Nat) (t1 : Int32) (s0 : AS) : Option AR :=
  sI s0 t0 11 24 t1 (fun s1 =>
  some (.inl none, s1))
def fX7_token_90  (a0 : Nat) (s0 : AS) : Option AR :=
  gI s0 a0 11 22 (fun v1 =>
  gI s0 a0 11 23 (fun v2 =>
  if (v1 - v2) ≤ (6 : Int32) then (
    fX7_token_110 a0 1 s0)
  else (
    fX7_token_110 a0 4 s0)))
def fX7_token_63  : Nat → Nat → AS → Option AR
  | 0, _, _ => none
  | n + 1, a0, s0 =>
    gI s0 a0 11 22 (fun v1 =>
    cV s0 a0 11 (fX7_seen a0 v1 s0) (qI (fun v2 s3 =>
    cS s3 (fX7_isSmall v2 s3) (qI (fun v4 s5 =>
    if v4 = 0 then (
      fX7_token_90 a0 s5)
    else (
      gI s5 a0 11 22 (fun v6 =>
      sI s5 a0 11 22 (v6 + 1) (fun s7 =>
      fX7_token_63 n a0 s7))))))))
def fX7_token_26  (a0 : Nat) (s0 : AS) : Option AR :=
  gI s0 a0 11 22 (fun v1 =>
  sI s0 a0 11 23 v1 (fun s2 =>
  gI s2 a0 11 22 (fun v3 =>
  cV s2 a0 11 (fX7_seen a0 v3 s2) (qI (fun v4 s5 =>
  if v4 = (-1 : Int32) then (
    sI s5 a0 11 24 0 (fun s11 =>
    some (.inl none, s11)))
  else (
    cS s5 (fX7_isSmall v4 s5) (qI (fun v6 s7 =>
    if v6 = 0 then (
      cS s7 (fX7_isDigit v4 s7) (qI (fun v8 s9 =>
      if v8 = 0 then (
        if v4 = (59 : Int32) then (
          fX7_token_232 a0 a0 3 s9)
        else (
          fX7_token_232 a0 a0 4 s9))
      else (
        sI s9 a0 11 25 0 (fun s10 =>
        fX7_token_128 FU a0 s10)))))
    else (
      fX7_token_63 FU a0 s7)))))))))
def fX7_token_0  : Nat → Nat → AS → Option AR
  | 0, _, _ => none
  | n + 1, a0, s0 =>
    gI s0 a0 11 22 (fun v1 =>
    cV s0 a0 11 (fX7_seen a0 v1 s0) (qI (fun v2 s3 =>
    if v2 = (32 : Int32) then (
      gI s3 a0 11 22 (fun v4 =>
      sI s3 a0 11 22 (v4 + 1) (fun s5 =>
      fX7_token_0 n a0 s5)))
    else (
      fX7_token_26 a0 s3))))
def fX7_token (a0 : Nat) (s0 : AS) : Option AR :=
  gI s0 a0 11 22 (fun v1 =>
  cV s0 a0 11 (fX7_seen a0 v1 s0) (qI (fun v2 s3 =>
  if v2 = (32 : Int32) then (
    gI s3 a0 11 22 (fun v4 =>
    sI s3 a0 11 22 (v4 + 1) (fun s5 =>
    fX7_token_0 FU a0 s5)))
  else (
    fX7_token_26 a0 s3))))
set_option maxHeartbeats 4000000 in
theorem oX7_token_232 {Γ : CX} (C : OKC Γ cX7_token RX7 none) (T : ∀ z ∈ (cx_c Γ).exceptionTable.toList, False) (hn : cx_nL Γ = 2) (hR : cx_fr Γ = 2 ∧ cx_lo Γ = 81) (hin : (cx_meth Γ).name = yX7_token.name) : ∀ (a0 : Nat) (t0 : Nat) (t1 : Int32) (s0 : AS), OK Γ 232 [(0, .ref a0)] [.int t1, .ref t0] (fX7_token_232  a0 t0 t1 s0) s0 := by
  intro a0 t0 t1 s0
  unfold fX7_token_232
  refine ok_putI C flX7_97_11 dX7_token_232 (fun s1 _ => ?_)
  refine ok_aload_n C 0 dX7_token_235 rfl ?_
  refine ok_dup C dX7_token_236 rfl ?_
  refine ok_getI C frX7_87_11 dX7_token_237 (fun v2 => ?_)
  refine ok_iconst C (v := 1) dX7_token_240 (by decide) ?_
  refine ok_iadd C dX7_token_241 ?_
  refine ok_putI C flX7_87_11 dX7_token_242 (fun s3 _ => ?_)
  exact ok_vreturn C dX7_token_245
set_option maxHeartbeats 4000000 in
theorem oX7_token_214 {Γ : CX} (C : OKC Γ cX7_token RX7 none) (T : ∀ z ∈ (cx_c Γ).exceptionTable.toList, False) (hn : cx_nL Γ = 2) (hR : cx_fr Γ = 2 ∧ cx_lo Γ = 81) (hin : (cx_meth Γ).name = yX7_token.name) : ∀ (t0 : Nat) (t1 : Int32) (s0 : AS), OK Γ 214 [] [.int t1, .ref t0] (fX7_token_214  t0 t1 s0) s0 := by
  intro t0 t1 s0
  unfold fX7_token_214
  refine ok_putI C flX7_97_11 dX7_token_214 (fun s1 _ => ?_)
  refine ok_goto C 245 dX7_token_217 (by decide) ?_
  exact ok_vreturn C dX7_token_245
set_option maxHeartbeats 4000000 in
theorem oX7_token_195 {Γ : CX} (C : OKC Γ cX7_token RX7 none) (T : ∀ z ∈ (cx_c Γ).exceptionTable.toList, False) (hn : cx_nL Γ = 2) (hR : cx_fr Γ = 2 ∧ cx_lo Γ = 81) (hin : (cx_meth Γ).name = yX7_token.name) : ∀ (a0 : Nat) (s0 : AS), OK Γ 195 [(0, .ref a0)] [] (fX7_token_195  a0 s0) s0 := by
  intro a0 s0
  unfold fX7_token_195
  refine ok_aload_n C 0 dX7_token_195 rfl ?_
  refine ok_aload_n C 0 dX7_token_196 rfl ?_
  refine ok_getI C frX7_87_11 dX7_token_197 (fun v1 => ?_)
  refine ok_aload_n C 0 dX7_token_200 rfl ?_
  refine ok_getI C frX7_94_11 dX7_token_201 (fun v2 => ?_)
  refine ok_isub C dX7_token_204 ?_
  refine ok_iconst C (v := 3) dX7_token_205 (by decide) ?_
  refine ok_icmp_le C 213 dX7_token_206 (by decide) ?_ ?_
  · refine ok_iconst C (v := 2) dX7_token_213 (by decide) ?_
    refine OK.sub (lv' := []) [] rfl ?_
    exact oX7_token_214 C T hn hR hin a0 2 s0
  · refine ok_iconst C (v := 4) dX7_token_209 (by decide) ?_
    refine ok_goto C 214 dX7_token_210 (by decide) ?_
    refine OK.sub (lv' := []) [] rfl ?_
    exact oX7_token_214 C T hn hR hin a0 4 s0
set_option maxHeartbeats 4000000 in
theorem oX7_token_179 {Γ : CX} (C : OKC Γ cX7_token RX7 none) (T : ∀ z ∈ (cx_c Γ).exceptionTable.toList, False) (hn : cx_nL Γ = 2) (hR : cx_fr Γ = 2 ∧ cx_lo Γ = 81) (hin : (cx_meth Γ).name = yX7_token.name) {r128 : Nat → AS → Option AR} (h128 : ∀ (a0 : Nat) (s0 : AS), OK Γ 128 [(0, .ref a0)] [] (r128 a0 s0) s0) : ∀ (a0 : Nat) (t0 : Nat) (t1 : Int32) (s0 : AS), OK Γ 179 [(0, .ref a0)] [.int t1, .ref t0] (fX7_token_179 r128 a0 t0 t1 s0) s0 := by
  intro a0 t0 t1 s0
  unfold fX7_token_179
  refine ok_putI C flX7_107_11 dX7_token_179 (fun s1 _ => ?_)
  refine ok_aload_n C 0 dX7_token_182 rfl ?_
  refine ok_dup C dX7_token_183 rfl ?_
  refine ok_getI C frX7_87_11 dX7_token_184 (fun v2 => ?_)
  refine ok_iconst C (v := 1) dX7_token_187 (by decide) ?_
  refine ok_iadd C dX7_token_188 ?_
  refine ok_putI C flX7_87_11 dX7_token_189 (fun s3 _ => ?_)
  refine ok_goto C 128 dX7_token_192 (by decide) ?_
  exact h128 a0 s3
set_option maxHeartbeats 4000000 in
theorem oX7_token_128 {Γ : CX} (C : OKC Γ cX7_token RX7 none) (T : ∀ z ∈ (cx_c Γ).exceptionTable.toList, False) (hn : cx_nL Γ = 2) (hR : cx_fr Γ = 2 ∧ cx_lo Γ = 81) (hin : (cx_meth Γ).name = yX7_token.name) : ∀ (n : Nat) (a0 : Nat) (s0 : AS), OK Γ 128 [(0, .ref a0)] [] (fX7_token_128 n a0 s0) s0 := by
  intro n
  induction n with
  | zero => intro _ s0; exact OK.none
  | succ n ih =>
    intro a0 s0
    rw [fX7_token_128]
    refine ok_aload_n C 0 dX7_token_128 rfl ?_
    refine ok_aload_n C 0 dX7_token_129 rfl ?_
    refine ok_getI C frX7_87_11 dX7_token_130 (fun v1 => ?_)
    refine ok_callV C T [.int v1] (F := fX7_seen a0 v1) (ctX7_seen (C.2.2.2.2.2.2.2.2.1) a0 v1) vlX7_90 viX7_seen rfl rfl (by decide) rfl (by rw [hR.1, hR.2]; decide) (Nat.le_of_ble_eq_true rfl) dX7_token_133 (ok_qI fun v2 s3 => ?_)
    refine ok_callS C T [.int v2] (F := fX7_isDigit v2) (ctX7_isDigit (C.2.2.2.2.2.2.2.2.1) v2) vlX7_104 kw_764 rfl (by rw [hR.1, hR.2]; decide) (Nat.le_of_ble_eq_true rfl) dX7_token_136 (ok_qI fun v4 s5 => ?_)
    refine ok_if_eq C 195 dX7_token_139 (by decide) ?_ ?_
    · exact oX7_token_195 C T hn hR hin a0 s5
    · refine ok_aload_n C 0 dX7_token_142 rfl ?_
      refine ok_aload_n C 0 dX7_token_143 rfl ?_
      refine ok_getI C frX7_87_11 dX7_token_144 (fun v6 => ?_)
      refine ok_aload_n C 0 dX7_token_147 rfl ?_
      refine ok_getI C frX7_94_11 dX7_token_148 (fun v7 => ?_)
      refine ok_isub C dX7_token_151 ?_
      refine ok_iconst C (v := 3) dX7_token_152 (by decide) ?_
      refine ok_icmp_ge C 178 dX7_token_153 (by decide) ?_ ?_
      · refine ok_iconst C (v := 0) dX7_token_178 (by decide) ?_
        exact oX7_token_179 C T hn hR hin ih a0 a0 0 s5
      · refine ok_bipush C (v := 10) dX7_token_156 (by decide) ?_
        refine ok_aload_n C 0 dX7_token_158 rfl ?_
        refine ok_getI C frX7_107_11 dX7_token_159 (fun v8 => ?_)
        refine ok_imul C dX7_token_162 ?_
        refine ok_aload_n C 0 dX7_token_163 rfl ?_
        refine ok_aload_n C 0 dX7_token_164 rfl ?_
        refine ok_getI C frX7_87_11 dX7_token_165 (fun v9 => ?_)
        refine ok_callV C T [.int v9] (F := fX7_seen a0 v9) (ctX7_seen (C.2.2.2.2.2.2.2.2.1) a0 v9) vlX7_90 viX7_seen rfl rfl (by decide) rfl (by rw [hR.1, hR.2]; decide) (Nat.le_of_ble_eq_true rfl) dX7_token_168 (ok_qI fun v10 s11 => ?_)
        refine ok_iadd C dX7_token_171 ?_
        refine ok_bipush C (v := 48) dX7_token_172 (by decide) ?_
        refine ok_isub C dX7_token_174 ?_
        refine ok_goto C 179 dX7_token_175 (by decide) ?_
        exact oX7_token_179 C T hn hR hin ih a0 a0 (((10 * v8) + v10) - 48) s11
set_option maxHeartbeats 4000000 in
theorem oX7_token_110 {Γ : CX} (C : OKC Γ cX7_token RX7 none) (T : ∀ z ∈ (cx_c Γ).exceptionTable.toList, False) (hn : cx_nL Γ = 2) (hR : cx_fr Γ = 2 ∧ cx_lo Γ = 81) (hin : (cx_meth Γ).name = yX7_token.name) : ∀ (t0 : Nat) (t1 : Int32) (s0 : AS), OK Γ 110 [] [.int t1, .ref t0] (fX7_token_110  t0 t1 s0) s0 := by
  intro t0 t1 s0
  unfold fX7_token_110
  refine ok_putI C flX7_97_11 dX7_token_110 (fun s1 _ => ?_)
  refine ok_goto C 245 dX7_token_113 (by decide) ?_
  exact ok_vreturn C dX7_token_245
set_option maxHeartbeats 4000000 in
theorem oX7_token_90 {Γ : CX} (C : OKC Γ cX7_token RX7 none) (T : ∀ z ∈ (cx_c Γ).exceptionTable.toList, False) (hn : cx_nL Γ = 2) (hR : cx_fr Γ = 2 ∧ cx_lo Γ = 81) (hin : (cx_meth Γ).name = yX7_token.name) : ∀ (a0 : Nat) (s0 : AS), OK Γ 90 [(0, .ref a0)] [] (fX7_token_90  a0 s0) s0 := by
  intro a0 s0
  unfold fX7_token_90
  refine ok_aload_n C 0 dX7_token_90 rfl ?_
  refine ok_aload_n C 0 dX7_token_91 rfl ?_
  refine ok_getI C frX7_87_11 dX7_token_92 (fun v1 => ?_)
  refine ok_aload_n C 0 dX7_token_95 rfl ?_
  refine ok_getI C frX7_94_11 dX7_token_96 (fun v2 => ?_)
  refine ok_isub C dX7_token_99 ?_
  refine ok_bipush C (v := 6) dX7_token_100 (by decide) ?_
  refine ok_icmp_le C 109 dX7_token_102 (by decide) ?_ ?_
  · refine ok_iconst C (v := 1) dX7_token_109 (by decide) ?_
    refine OK.sub (lv' := []) [] rfl ?_
    exact oX7_token_110 C T hn hR hin a0 1 s0
  · refine ok_iconst C (v := 4) dX7_token_105 (by decide) ?_
    refine ok_goto C 110 dX7_token_106 (by decide) ?_
    refine OK.sub (lv' := []) [] rfl ?_
    exact oX7_token_110 C T hn hR hin a0 4 s0
set_option maxHeartbeats 4000000 in
theorem oX7_token_63 {Γ : CX} (C : OKC Γ cX7_token RX7 none) (T : ∀ z ∈ (cx_c Γ).exceptionTable.toList, False) (hn : cx_nL Γ = 2) (hR : cx_fr Γ = 2 ∧ cx_lo Γ = 81) (hin : (cx_meth Γ).name = yX7_token.name) : ∀ (n : Nat) (a0 : Nat) (s0 : AS), OK Γ 63 [(0, .ref a0)] [] (fX7_token_63 n a0 s0) s0 := by
  intro n
  induction n with
  | zero => intro _ s0; exact OK.none
  | succ n ih =>
    intro a0 s0
    rw [fX7_token_63]
    refine ok_aload_n C 0 dX7_token_63 rfl ?_
    refine ok_aload_n C 0 dX7_token_64 rfl ?_
    refine ok_getI C frX7_87_11 dX7_token_65 (fun v1 => ?_)
    refine ok_callV C T [.int v1] (F := fX7_seen a0 v1) (ctX7_seen (C.2.2.2.2.2.2.2.2.1) a0 v1) vlX7_90 viX7_seen rfl rfl (by decide) rfl (by rw [hR.1, hR.2]; decide) (Nat.le_of_ble_eq_true rfl) dX7_token_68 (ok_qI fun v2 s3 => ?_)
    refine ok_callS C T [.int v2] (F := fX7_isSmall v2) (ctX7_isSmall (C.2.2.2.2.2.2.2.2.1) v2) vlX7_100 kw_761 rfl (by rw [hR.1, hR.2]; decide) (Nat.le_of_ble_eq_true rfl) dX7_token_71 (ok_qI fun v4 s5 => ?_)
    refine ok_if_eq C 90 dX7_token_74 (by decide) ?_ ?_
    · exact oX7_token_90 C T hn hR hin a0 s5
    · refine ok_aload_n C 0 dX7_token_77 rfl ?_
      refine ok_dup C dX7_token_78 rfl ?_
      refine ok_getI C frX7_87_11 dX7_token_79 (fun v6 => ?_)
      refine ok_iconst C (v := 1) dX7_token_82 (by decide) ?_
      refine ok_iadd C dX7_token_83 ?_
      refine ok_putI C flX7_87_11 dX7_token_84 (fun s7 _ => ?_)
      refine ok_goto C 63 dX7_token_87 (by decide) ?_
      exact ih a0 s7
set_option maxHeartbeats 4000000 in
theorem oX7_token_26 {Γ : CX} (C : OKC Γ cX7_token RX7 none) (T : ∀ z ∈ (cx_c Γ).exceptionTable.toList, False) (hn : cx_nL Γ = 2) (hR : cx_fr Γ = 2 ∧ cx_lo Γ = 81) (hin : (cx_meth Γ).name = yX7_token.name) : ∀ (a0 : Nat) (s0 : AS), OK Γ 26 [(0, .ref a0)] [] (fX7_token_26  a0 s0) s0 := by
  intro a0 s0
  unfold fX7_token_26
  refine ok_aload_n C 0 dX7_token_26 rfl ?_
  refine ok_aload_n C 0 dX7_token_27 rfl ?_
  refine ok_getI C frX7_87_11 dX7_token_28 (fun v1 => ?_)
  refine ok_putI C flX7_94_11 dX7_token_31 (fun s2 _ => ?_)
  refine ok_aload_n C 0 dX7_token_34 rfl ?_
  refine ok_aload_n C 0 dX7_token_35 rfl ?_
  refine ok_getI C frX7_87_11 dX7_token_36 (fun v3 => ?_)
  refine ok_callV C T [.int v3] (F := fX7_seen a0 v3) (ctX7_seen (C.2.2.2.2.2.2.2.2.1) a0 v3) vlX7_90 viX7_seen rfl rfl (by decide) rfl (by rw [hR.1, hR.2]; decide) (Nat.le_of_ble_eq_true rfl) dX7_token_39 (ok_qI fun v4 s5 => ?_)
  refine ok_istore_n C (i := 1) [(1, .int v4), (0, .ref a0)] dX7_token_42 rfl (by rw [hn]; decide) rfl ?_
  refine ok_iload_n C 0 dX7_token_43 rfl ?_
  refine ok_iconst C (v := (-1)) dX7_token_44 (by decide) ?_
  refine ok_icmp_ne C 56 dX7_token_45 (by decide) ?_ ?_
  · refine ok_iload_n C 0 dX7_token_56 rfl ?_
    refine ok_callS C T [.int v4] (F := fX7_isSmall v4) (ctX7_isSmall (C.2.2.2.2.2.2.2.2.1) v4) vlX7_100 kw_761 rfl (by rw [hR.1, hR.2]; decide) (Nat.le_of_ble_eq_true rfl) dX7_token_57 (ok_qI fun v6 s7 => ?_)
    refine ok_if_eq C 116 dX7_token_60 (by decide) ?_ ?_
    · refine ok_iload_n C 0 dX7_token_116 rfl ?_
      refine ok_callS C T [.int v4] (F := fX7_isDigit v4) (ctX7_isDigit (C.2.2.2.2.2.2.2.2.1) v4) vlX7_104 kw_764 rfl (by rw [hR.1, hR.2]; decide) (Nat.le_of_ble_eq_true rfl) dX7_token_117 (ok_qI fun v8 s9 => ?_)
      refine ok_if_eq C 220 dX7_token_120 (by decide) ?_ ?_
      · refine ok_aload_n C 1 dX7_token_220 rfl ?_
        refine ok_iload_n C 0 dX7_token_221 rfl ?_
        refine ok_bipush C (v := 59) dX7_token_222 (by decide) ?_
        refine ok_icmp_ne C 231 dX7_token_224 (by decide) ?_ ?_
        · refine ok_iconst C (v := 4) dX7_token_231 (by decide) ?_
          refine OK.sub (lv' := [(0, .ref a0)]) [1] rfl ?_
          exact oX7_token_232 C T hn hR hin a0 a0 4 s9
        · refine ok_iconst C (v := 3) dX7_token_227 (by decide) ?_
          refine ok_goto C 232 dX7_token_228 (by decide) ?_
          refine OK.sub (lv' := [(0, .ref a0)]) [1] rfl ?_
          exact oX7_token_232 C T hn hR hin a0 a0 3 s9
      · refine ok_aload_n C 1 dX7_token_123 rfl ?_
        refine ok_iconst C (v := 0) dX7_token_124 (by decide) ?_
        refine ok_putI C flX7_107_11 dX7_token_125 (fun s10 _ => ?_)
        refine OK.sub (lv' := [(0, .ref a0)]) [1] rfl ?_
        exact oX7_token_128 C T hn hR hin FU a0 s10
    · refine OK.sub (lv' := [(0, .ref a0)]) [1] rfl ?_
      exact oX7_token_63 C T hn hR hin FU a0 s7
  · refine ok_aload_n C 1 dX7_token_48 rfl ?_
    refine ok_iconst C (v := 0) dX7_token_49 (by decide) ?_
    refine ok_putI C flX7_97_11 dX7_token_50 (fun s11 _ => ?_)
    refine ok_goto C 245 dX7_token_53 (by decide) ?_
    exact ok_vreturn C dX7_token_245
set_option maxHeartbeats 4000000 in
theorem oX7_token_0 {Γ : CX} (C : OKC Γ cX7_token RX7 none) (T : ∀ z ∈ (cx_c Γ).exceptionTable.toList, False) (hn : cx_nL Γ = 2) (hR : cx_fr Γ = 2 ∧ cx_lo Γ = 81) (hin : (cx_meth Γ).name = yX7_token.name) : ∀ (n : Nat) (a0 : Nat) (s0 : AS), OK Γ 0 [(0, .ref a0)] [] (fX7_token_0 n a0 s0) s0 := by
  intro n
  induction n with
  | zero => intro _ s0; exact OK.none
  | succ n ih =>
    intro a0 s0
    rw [fX7_token_0]
    refine ok_aload_n C 0 dX7_token_0 rfl ?_
    refine ok_aload_n C 0 dX7_token_1 rfl ?_
    refine ok_getI C frX7_87_11 dX7_token_2 (fun v1 => ?_)
    refine ok_callV C T [.int v1] (F := fX7_seen a0 v1) (ctX7_seen (C.2.2.2.2.2.2.2.2.1) a0 v1) vlX7_90 viX7_seen rfl rfl (by decide) rfl (by rw [hR.1, hR.2]; decide) (Nat.le_of_ble_eq_true rfl) dX7_token_5 (ok_qI fun v2 s3 => ?_)
    refine ok_bipush C (v := 32) dX7_token_8 (by decide) ?_
    refine ok_icmp_ne C 26 dX7_token_10 (by decide) ?_ ?_
    · exact oX7_token_26 C T hn hR hin a0 s3
    · refine ok_aload_n C 0 dX7_token_13 rfl ?_
      refine ok_dup C dX7_token_14 rfl ?_
      refine ok_getI C frX7_87_11 dX7_token_15 (fun v4 => ?_)
      refine ok_iconst C (v := 1) dX7_token_18 (by decide) ?_
      refine ok_iadd C dX7_token_19 ?_
      refine ok_putI C flX7_87_11 dX7_token_20 (fun s5 _ => ?_)
      refine ok_goto C 0 dX7_token_23 (by decide) ?_
      exact ih a0 s5
set_option maxHeartbeats 4000000 in
theorem oX7_token {Γ : CX} (C : OKC Γ cX7_token RX7 none) (T : ∀ z ∈ (cx_c Γ).exceptionTable.toList, False) (hn : cx_nL Γ = 2) (hR : cx_fr Γ = 2 ∧ cx_lo Γ = 81) (hin : (cx_meth Γ).name = yX7_token.name) : ∀ (a0 : Nat) (s0 : AS), OK Γ 0 [(0, .ref a0)] [] (fX7_token a0 s0) s0 := by
  intro a0 s0
  unfold fX7_token
  refine ok_aload_n C 0 dX7_token_0 rfl ?_
  refine ok_aload_n C 0 dX7_token_1 rfl ?_
  refine ok_getI C frX7_87_11 dX7_token_2 (fun v1 => ?_)
  refine ok_callV C T [.int v1] (F := fX7_seen a0 v1) (ctX7_seen (C.2.2.2.2.2.2.2.2.1) a0 v1) vlX7_90 viX7_seen rfl rfl (by decide) rfl (by rw [hR.1, hR.2]; decide) (Nat.le_of_ble_eq_true rfl) dX7_token_5 (ok_qI fun v2 s3 => ?_)
  refine ok_bipush C (v := 32) dX7_token_8 (by decide) ?_
  refine ok_icmp_ne C 26 dX7_token_10 (by decide) ?_ ?_
  · exact oX7_token_26 C T hn hR hin a0 s3
  · refine ok_aload_n C 0 dX7_token_13 rfl ?_
    refine ok_dup C dX7_token_14 rfl ?_
    refine ok_getI C frX7_87_11 dX7_token_15 (fun v4 => ?_)
    refine ok_iconst C (v := 1) dX7_token_18 (by decide) ?_
    refine ok_iadd C dX7_token_19 ?_
    refine ok_putI C flX7_87_11 dX7_token_20 (fun s5 _ => ?_)
    refine ok_goto C 0 dX7_token_23 (by decide) ?_
    exact oX7_token_0 C T hn hR hin FU a0 s5
theorem ctX7_token {l : Launch} (hl : l.stackTraces = false) {D : va_G} {dA : Nat → ClassId} {B0 : Nat} (a0 : Nat) : Ct l D dA B0 yX7_token (.code yX7_token cX7_token 2 (none) :: ax_ALL) 2 81 [.ref a0] (fX7_token a0) :=
  Ct.of hl (by decide +kernel) (Nat.le_of_ble_eq_true rfl) fun Γ C _ _ _ _ e5 e6 e7 T hin => oX7_token C T e5 ⟨e6, e7⟩ hin a0 _
/-! ChaseLockerModel.fails(I)V -/
def fX7_fails (a0 : Nat) (x1 : Int32) (s0 : AS) : Option AR :=
  gI s0 a0 11 26 (fun v1 =>
  if v1 = 0 then (
    sI s0 a0 11 26 x1 (fun s2 =>
    gI s2 a0 11 23 (fun v3 =>
    sI s2 a0 11 27 v3 (fun s4 =>
    some (.inl none, s4)))))
  else (
    some (.inl none, s0)))
set_option maxHeartbeats 4000000 in
theorem oX7_fails {Γ : CX} (C : OKC Γ cX7_fails RX7 none) (T : ∀ z ∈ (cx_c Γ).exceptionTable.toList, False) (hn : cx_nL Γ = 2) (hR : cx_fr Γ = 1 ∧ cx_lo Γ = 60) (hin : (cx_meth Γ).name = yX7_fails.name) : ∀ (a0 : Nat) (x1 : Int32) (s0 : AS), OK Γ 0 [(0, .ref a0), (1, .int x1)] [] (fX7_fails a0 x1 s0) s0 := by
  intro a0 x1 s0
  unfold fX7_fails
  refine ok_aload_n C 0 dX7_fails_0 rfl ?_
  refine ok_getI C frX7_110_11 dX7_fails_1 (fun v1 => ?_)
  refine ok_if_ne C 20 dX7_fails_4 (by decide) ?_ ?_
  · exact ok_vreturn C dX7_fails_20
  · refine ok_aload_n C 0 dX7_fails_7 rfl ?_
    refine ok_iload_n C 1 dX7_fails_8 rfl ?_
    refine ok_putI C flX7_110_11 dX7_fails_9 (fun s2 _ => ?_)
    refine ok_aload_n C 0 dX7_fails_12 rfl ?_
    refine ok_aload_n C 0 dX7_fails_13 rfl ?_
    refine ok_getI C frX7_94_11 dX7_fails_14 (fun v3 => ?_)
    refine ok_putI C flX7_113_11 dX7_fails_17 (fun s4 _ => ?_)
    exact ok_vreturn C dX7_fails_20
theorem ctX7_fails {l : Launch} (hl : l.stackTraces = false) {D : va_G} {dA : Nat → ClassId} {B0 : Nat} (a0 : Nat) (x1 : Int32) : Ct l D dA B0 yX7_fails (.code yX7_fails cX7_fails 2 (none) :: ax_ALL) 1 60 [.ref a0, .int x1] (fX7_fails a0 x1) :=
  Ct.of hl (by decide +kernel) (Nat.le_of_ble_eq_true rfl) fun Γ C _ _ _ _ e5 e6 e7 T hin => oX7_fails C T e5 ⟨e6, e7⟩ hin a0 x1 _
/-! ChaseLockerModel.failsIf(ZI)V -/
def fX7_failsIf (a0 : Nat) (x1 : Int32) (x2 : Int32) (s0 : AS) : Option AR :=
  if x1 = 0 then (
    some (.inl none, s0))
  else (
    cV s0 a0 11 (fX7_fails a0 x2 s0) (qV (fun s1 =>
    some (.inl none, s1))))
set_option maxHeartbeats 4000000 in
theorem oX7_failsIf {Γ : CX} (C : OKC Γ cX7_failsIf RX7 none) (T : ∀ z ∈ (cx_c Γ).exceptionTable.toList, False) (hn : cx_nL Γ = 3) (hR : cx_fr Γ = 2 ∧ cx_lo Γ = 81) (hin : (cx_meth Γ).name = yX7_failsIf.name) : ∀ (a0 : Nat) (x1 : Int32) (x2 : Int32) (s0 : AS), OK Γ 0 [(0, .ref a0), (1, .int x1), (2, .int x2)] [] (fX7_failsIf a0 x1 x2 s0) s0 := by
  intro a0 x1 x2 s0
  unfold fX7_failsIf
  refine ok_iload_n C 1 dX7_failsIf_0 rfl ?_
  refine ok_if_eq C 9 dX7_failsIf_1 (by decide) ?_ ?_
  · exact ok_vreturn C dX7_failsIf_9
  · refine ok_aload_n C 0 dX7_failsIf_4 rfl ?_
    refine ok_iload_n C 2 dX7_failsIf_5 rfl ?_
    refine ok_callV C T [.int x2] (F := fX7_fails a0 x2) (ctX7_fails (C.2.2.2.2.2.2.2.2.1) a0 x2) vlX7_116 viX7_fails rfl rfl (by decide) rfl (by rw [hR.1, hR.2]; decide) (Nat.le_of_ble_eq_true rfl) dX7_failsIf_6 (ok_qV fun s1 => ?_)
    exact ok_vreturn C dX7_failsIf_9
theorem ctX7_failsIf {l : Launch} (hl : l.stackTraces = false) {D : va_G} {dA : Nat → ClassId} {B0 : Nat} (a0 : Nat) (x1 : Int32) (x2 : Int32) : Ct l D dA B0 yX7_failsIf (.code yX7_failsIf cX7_failsIf 3 (none) :: ax_ALL) 2 81 [.ref a0, .int x1, .int x2] (fX7_failsIf a0 x1 x2) :=
  Ct.of hl (by decide +kernel) (Nat.le_of_ble_eq_true rfl) fun Γ C _ _ _ _ e5 e6 e7 T hin => oX7_failsIf C T e5 ⟨e6, e7⟩ hin a0 x1 x2 _
/-! ChaseLockerModel.goesOn()V -/
def fX7_goesOn (a0 : Nat) (s0 : AS) : Option AR :=
  gI s0 a0 11 26 (fun v1 =>
  if v1 = 0 then (
    cV s0 a0 11 (fX7_token a0 s0) (qV (fun s2 =>
    some (.inl none, s2))))
  else (
    some (.inl none, s0)))
set_option maxHeartbeats 4000000 in
theorem oX7_goesOn {Γ : CX} (C : OKC Γ cX7_goesOn RX7 none) (T : ∀ z ∈ (cx_c Γ).exceptionTable.toList, False) (hn : cx_nL Γ = 1) (hR : cx_fr Γ = 3 ∧ cx_lo Γ = 102) (hin : (cx_meth Γ).name = yX7_goesOn.name) : ∀ (a0 : Nat) (s0 : AS), OK Γ 0 [(0, .ref a0)] [] (fX7_goesOn a0 s0) s0 := by
  intro a0 s0
  unfold fX7_goesOn
  refine ok_aload_n C 0 dX7_goesOn_0 rfl ?_
  refine ok_getI C frX7_110_11 dX7_goesOn_1 (fun v1 => ?_)
  refine ok_if_ne C 11 dX7_goesOn_4 (by decide) ?_ ?_
  · exact ok_vreturn C dX7_goesOn_11
  · refine ok_aload_n C 0 dX7_goesOn_7 rfl ?_
    refine ok_callV C T [] (F := fX7_token a0) (ctX7_token (C.2.2.2.2.2.2.2.2.1) a0) vlX7_120 viX7_token rfl rfl (by decide) rfl (by rw [hR.1, hR.2]; decide) (Nat.le_of_ble_eq_true rfl) dX7_goesOn_8 (ok_qV fun s2 => ?_)
    exact ok_vreturn C dX7_goesOn_11
theorem ctX7_goesOn {l : Launch} (hl : l.stackTraces = false) {D : va_G} {dA : Nat → ClassId} {B0 : Nat} (a0 : Nat) : Ct l D dA B0 yX7_goesOn (.code yX7_goesOn cX7_goesOn 1 (none) :: ax_ALL) 3 102 [.ref a0] (fX7_goesOn a0) :=
  Ct.of hl (by decide +kernel) (Nat.le_of_ble_eq_true rfl) fun Γ C _ _ _ _ e5 e6 e7 T hin => oX7_goesOn C T e5 ⟨e6, e7⟩ hin a0 _
/-! ChaseLockerModel.isWord(Ljava/lang/String;)Z -/
def fX7_isWord_35  : Nat → Nat → Nat → Int32 → AS → Option AR
  | 0, _, _, _, _ => none
  | n + 1, a0, a1, x2, s0 =>
    cK s0 a1 (fJ0_length_8abf5 a1 s0) (qI (fun v1 s2 =>
    if v1 ≤ x2 then (
      rZ 1 s2)
    else (
      gI s2 a0 11 23 (fun v3 =>
      cV s2 a0 11 (fX7_seen a0 (v3 + x2) s2) (qI (fun v4 s5 =>
      cK s5 a1 (fJ0_charAt_5068e a1 x2 s5) (qI (fun v6 s7 =>
      if v4 = v6 then (
        lt (x2 + 1) (fun v8 =>
        fX7_isWord_35 n a0 a1 v8 s7))
      else (
        rZ 0 s7)))))))))
def fX7_isWord (a0 : Nat) (a1 : Nat) (s0 : AS) : Option AR :=
  gI s0 a0 11 26 (fun v1 =>
  if v1 = 0 then (
    gI s0 a0 11 24 (fun v2 =>
    if v2 = (1 : Int32) then (
      gI s0 a0 11 22 (fun v3 =>
      gI s0 a0 11 23 (fun v4 =>
      cK s0 a1 (fJ0_length_8abf5 a1 s0) (qI (fun v5 s6 =>
      if (v3 - v4) = v5 then (
        fX7_isWord_35 FU a0 a1 0 s6)
      else (
        rZ 0 s6))))))
    else (
      rZ 0 s0)))
  else (
    rZ 0 s0))
set_option maxHeartbeats 4000000 in
theorem oX7_isWord_35 {Γ : CX} (C : OKC Γ cX7_isWord RX7 (some (.boolean))) (T : ∀ z ∈ (cx_c Γ).exceptionTable.toList, False) (hn : cx_nL Γ = 3) (hR : cx_fr Γ = 5 ∧ cx_lo Γ = 145) (hin : (cx_meth Γ).name = yX7_isWord.name) : ∀ (n : Nat) (a0 : Nat) (a1 : Nat) (x2 : Int32) (s0 : AS), OK Γ 35 [(0, .ref a0), (1, .ref a1), (2, .int x2)] [] (fX7_isWord_35 n a0 a1 x2 s0) s0 := by
  intro n
  induction n with
  | zero => intro _ _ _ s0; exact OK.none
  | succ n ih =>
    intro a0 a1 x2 s0
    rw [fX7_isWord_35]
    refine ok_iload_n C 2 dX7_isWord_35 rfl ?_
    refine ok_aload_n C 1 dX7_isWord_36 rfl ?_
    refine ok_callK C T [] (F := fJ0_length_8abf5 a1) (ctJ0_length_8abf5 (C.2.2.2.2.2.2.2.2.1) a1) vlX7_123 viJ0_length_8abf5 rfl rfl (by rw [hR.1, hR.2]; decide) (Nat.le_of_ble_eq_true rfl) dX7_isWord_37 (ok_qI fun v1 s2 => ?_)
    refine ok_icmp_ge C 69 dX7_isWord_40 (by decide) ?_ ?_
    · refine ok_iconst C (v := 1) dX7_isWord_69 (by decide) ?_
      exact ok_zreturn C dX7_isWord_70
    · refine ok_aload_n C 0 dX7_isWord_43 rfl ?_
      refine ok_aload_n C 0 dX7_isWord_44 rfl ?_
      refine ok_getI C frX7_94_11 dX7_isWord_45 (fun v3 => ?_)
      refine ok_iload_n C 2 dX7_isWord_48 rfl ?_
      refine ok_iadd C dX7_isWord_49 ?_
      refine ok_callV C T [.int (v3 + x2)] (F := fX7_seen a0 (v3 + x2)) (ctX7_seen (C.2.2.2.2.2.2.2.2.1) a0 (v3 + x2)) vlX7_90 viX7_seen rfl rfl (by decide) rfl (by rw [hR.1, hR.2]; decide) (Nat.le_of_ble_eq_true rfl) dX7_isWord_50 (ok_qI fun v4 s5 => ?_)
      refine ok_aload_n C 1 dX7_isWord_53 rfl ?_
      refine ok_iload_n C 2 dX7_isWord_54 rfl ?_
      refine ok_callK C T [.int x2] (F := fJ0_charAt_5068e a1 x2) (ctJ0_charAt_5068e (C.2.2.2.2.2.2.2.2.1) a1 x2) vlX7_128 viJ0_charAt_5068e rfl rfl (by rw [hR.1, hR.2]; decide) (Nat.le_of_ble_eq_true rfl) dX7_isWord_55 (ok_qI fun v6 s7 => ?_)
      refine ok_icmp_eq C 63 dX7_isWord_58 (by decide) ?_ ?_
      · refine ok_iincL C 2 (c := 1) (fun v8 => [(2, .int v8), (0, .ref a0), (1, .ref a1)]) dX7_isWord_63 rfl rfl (by rw [hn]; decide) (fun _ => rfl) (fun v8 => ?_)
        refine ok_goto C 35 dX7_isWord_66 (by decide) ?_
        refine OK.sub (lv' := [(0, .ref a0), (1, .ref a1), (2, .int v8)]) [1, 2, 0] rfl ?_
        exact ih a0 a1 v8 s7
      · refine ok_iconst C (v := 0) dX7_isWord_61 (by decide) ?_
        exact ok_zreturn C dX7_isWord_62
set_option maxHeartbeats 4000000 in
theorem oX7_isWord {Γ : CX} (C : OKC Γ cX7_isWord RX7 (some (.boolean))) (T : ∀ z ∈ (cx_c Γ).exceptionTable.toList, False) (hn : cx_nL Γ = 3) (hR : cx_fr Γ = 5 ∧ cx_lo Γ = 145) (hin : (cx_meth Γ).name = yX7_isWord.name) : ∀ (a0 : Nat) (a1 : Nat) (s0 : AS), OK Γ 0 [(0, .ref a0), (1, .ref a1)] [] (fX7_isWord a0 a1 s0) s0 := by
  intro a0 a1 s0
  unfold fX7_isWord
  refine ok_aload_n C 0 dX7_isWord_0 rfl ?_
  refine ok_getI C frX7_110_11 dX7_isWord_1 (fun v1 => ?_)
  refine ok_if_ne C 31 dX7_isWord_4 (by decide) ?_ ?_
  · refine ok_iconst C (v := 0) dX7_isWord_31 (by decide) ?_
    exact ok_zreturn C dX7_isWord_32
  · refine ok_aload_n C 0 dX7_isWord_7 rfl ?_
    refine ok_getI C frX7_97_11 dX7_isWord_8 (fun v2 => ?_)
    refine ok_iconst C (v := 1) dX7_isWord_11 (by decide) ?_
    refine ok_icmp_ne C 31 dX7_isWord_12 (by decide) ?_ ?_
    · refine ok_iconst C (v := 0) dX7_isWord_31 (by decide) ?_
      exact ok_zreturn C dX7_isWord_32
    · refine ok_aload_n C 0 dX7_isWord_15 rfl ?_
      refine ok_getI C frX7_87_11 dX7_isWord_16 (fun v3 => ?_)
      refine ok_aload_n C 0 dX7_isWord_19 rfl ?_
      refine ok_getI C frX7_94_11 dX7_isWord_20 (fun v4 => ?_)
      refine ok_isub C dX7_isWord_23 ?_
      refine ok_aload_n C 1 dX7_isWord_24 rfl ?_
      refine ok_callK C T [] (F := fJ0_length_8abf5 a1) (ctJ0_length_8abf5 (C.2.2.2.2.2.2.2.2.1) a1) vlX7_123 viJ0_length_8abf5 rfl rfl (by rw [hR.1, hR.2]; decide) (Nat.le_of_ble_eq_true rfl) dX7_isWord_25 (ok_qI fun v5 s6 => ?_)
      refine ok_icmp_eq C 33 dX7_isWord_28 (by decide) ?_ ?_
      · refine ok_iconst C (v := 0) dX7_isWord_33 (by decide) ?_
        refine ok_istore_n C (i := 2) [(2, .int 0), (0, .ref a0), (1, .ref a1)] dX7_isWord_34 rfl (by rw [hn]; decide) rfl ?_
        refine OK.sub (lv' := [(0, .ref a0), (1, .ref a1), (2, .int 0)]) [1, 2, 0] rfl ?_
        exact oX7_isWord_35 C T hn hR hin FU a0 a1 0 s6
      · refine ok_iconst C (v := 0) dX7_isWord_31 (by decide) ?_
        exact ok_zreturn C dX7_isWord_32
theorem ctX7_isWord {l : Launch} (hl : l.stackTraces = false) {D : va_G} {dA : Nat → ClassId} {B0 : Nat} (a0 : Nat) (a1 : Nat) : Ct l D dA B0 yX7_isWord (.code yX7_isWord cX7_isWord 3 (some (.boolean)) :: ax_ALL) 5 145 [.ref a0, .ref a1] (fX7_isWord a0 a1) :=
  Ct.of hl (by decide +kernel) (Nat.le_of_ble_eq_true rfl) fun Γ C _ _ _ _ e5 e6 e7 T hin => oX7_isWord C T e5 ⟨e6, e7⟩ hin a0 a1 _
/-! ChaseLockerModel.word(Ljava/lang/String;)V -/
def fX7_word_14  (a0 : Nat) (t0 : Nat) (t1 : Int32) (s0 : AS) : Option AR :=
  cV s0 t0 11 (fX7_failsIf t0 t1 1 s0) (qV (fun s1 =>
  cV s1 a0 11 (fX7_goesOn a0 s1) (qV (fun s2 =>
  some (.inl none, s2)))))
def fX7_word (a0 : Nat) (a1 : Nat) (s0 : AS) : Option AR :=
  cV s0 a0 11 (fX7_isWord a0 a1 s0) (qI (fun v1 s2 =>
  if v1 = 0 then (
    fX7_word_14 a0 a0 1 s2)
  else (
    fX7_word_14 a0 a0 0 s2)))
set_option maxHeartbeats 4000000 in
theorem oX7_word_14 {Γ : CX} (C : OKC Γ cX7_word RX7 none) (T : ∀ z ∈ (cx_c Γ).exceptionTable.toList, False) (hn : cx_nL Γ = 2) (hR : cx_fr Γ = 6 ∧ cx_lo Γ = 167) (hin : (cx_meth Γ).name = yX7_word.name) : ∀ (a0 : Nat) (t0 : Nat) (t1 : Int32) (s0 : AS), OK Γ 14 [(0, .ref a0)] [.int t1, .ref t0] (fX7_word_14  a0 t0 t1 s0) s0 := by
  intro a0 t0 t1 s0
  unfold fX7_word_14
  refine ok_iconst C (v := 1) dX7_word_14 (by decide) ?_
  refine ok_callV C T [.int t1, .int 1] (F := fX7_failsIf t0 t1 1) (ctX7_failsIf (C.2.2.2.2.2.2.2.2.1) t0 t1 1) vlX7_136 viX7_failsIf rfl rfl (by decide) rfl (by rw [hR.1, hR.2]; decide) (Nat.le_of_ble_eq_true rfl) dX7_word_15 (ok_qV fun s1 => ?_)
  refine ok_aload_n C 0 dX7_word_18 rfl ?_
  refine ok_callV C T [] (F := fX7_goesOn a0) (ctX7_goesOn (C.2.2.2.2.2.2.2.2.1) a0) vlX7_140 viX7_goesOn rfl rfl (by decide) rfl (by rw [hR.1, hR.2]; decide) (Nat.le_of_ble_eq_true rfl) dX7_word_19 (ok_qV fun s2 => ?_)
  exact ok_vreturn C dX7_word_22
set_option maxHeartbeats 4000000 in
theorem oX7_word {Γ : CX} (C : OKC Γ cX7_word RX7 none) (T : ∀ z ∈ (cx_c Γ).exceptionTable.toList, False) (hn : cx_nL Γ = 2) (hR : cx_fr Γ = 6 ∧ cx_lo Γ = 167) (hin : (cx_meth Γ).name = yX7_word.name) : ∀ (a0 : Nat) (a1 : Nat) (s0 : AS), OK Γ 0 [(0, .ref a0), (1, .ref a1)] [] (fX7_word a0 a1 s0) s0 := by
  intro a0 a1 s0
  unfold fX7_word
  refine ok_aload_n C 0 dX7_word_0 rfl ?_
  refine ok_aload_n C 0 dX7_word_1 rfl ?_
  refine ok_aload_n C 1 dX7_word_2 rfl ?_
  refine ok_callV C T [.ref a1] (F := fX7_isWord a0 a1) (ctX7_isWord (C.2.2.2.2.2.2.2.2.1) a0 a1) vlX7_132 viX7_isWord rfl rfl (by decide) rfl (by rw [hR.1, hR.2]; decide) (Nat.le_of_ble_eq_true rfl) dX7_word_3 (ok_qI fun v1 s2 => ?_)
  refine ok_if_ne C 13 dX7_word_6 (by decide) ?_ ?_
  · refine ok_iconst C (v := 0) dX7_word_13 (by decide) ?_
    refine OK.sub (lv' := [(0, .ref a0)]) [0] rfl ?_
    exact oX7_word_14 C T hn hR hin a0 a0 0 s2
  · refine ok_iconst C (v := 1) dX7_word_9 (by decide) ?_
    refine ok_goto C 14 dX7_word_10 (by decide) ?_
    refine OK.sub (lv' := [(0, .ref a0)]) [0] rfl ?_
    exact oX7_word_14 C T hn hR hin a0 a0 1 s2
theorem ctX7_word {l : Launch} (hl : l.stackTraces = false) {D : va_G} {dA : Nat → ClassId} {B0 : Nat} (a0 : Nat) (a1 : Nat) : Ct l D dA B0 yX7_word (.code yX7_word cX7_word 2 (none) :: ax_ALL) 6 167 [.ref a0, .ref a1] (fX7_word a0 a1) :=
  Ct.of hl (by decide +kernel) (Nat.le_of_ble_eq_true rfl) fun Γ C _ _ _ _ e5 e6 e7 T hin => oX7_word C T e5 ⟨e6, e7⟩ hin a0 a1 _
/-! ChaseLockerModel.looks(II)I -/
def fX7_looks_33  (a0 : Nat) (x1 : Int32) (s0 : AS) : Option AR :=
  gI s0 a0 11 26 (fun v1 =>
  if v1 = 0 then (
    gI s0 a0 11 25 (fun v2 =>
    some (.inl (some (.int v2)), s0)))
  else (
    some (.inl (some (.int x1)), s0)))
def fX7_looks (a0 : Nat) (x1 : Int32) (x2 : Int32) (s0 : AS) : Option AR :=
  gI s0 a0 11 24 (fun v1 =>
  if v1 = (2 : Int32) then (
    gI s0 a0 11 25 (fun v2 =>
    cS s0 (fX7_in v2 x1 x2 s0) (qI (fun v3 s4 =>
    if v3 = 0 then (
      cV s4 a0 11 (fX7_fails a0 2 s4) (qV (fun s5 =>
      fX7_looks_33 a0 x1 s5)))
    else (
      fX7_looks_33 a0 x1 s4)))))
  else (
    cV s0 a0 11 (fX7_fails a0 1 s0) (qV (fun s6 =>
    fX7_looks_33 a0 x1 s6))))
set_option maxHeartbeats 4000000 in
theorem oX7_looks_33 {Γ : CX} (C : OKC Γ cX7_looks RX7 (some (.int))) (T : ∀ z ∈ (cx_c Γ).exceptionTable.toList, False) (hn : cx_nL Γ = 3) (hR : cx_fr Γ = 2 ∧ cx_lo Γ = 82) (hin : (cx_meth Γ).name = yX7_looks.name) : ∀ (a0 : Nat) (x1 : Int32) (s0 : AS), OK Γ 33 [(0, .ref a0), (1, .int x1)] [] (fX7_looks_33  a0 x1 s0) s0 := by
  intro a0 x1 s0
  unfold fX7_looks_33
  refine ok_aload_n C 0 dX7_looks_33 rfl ?_
  refine ok_getI C frX7_110_11 dX7_looks_34 (fun v1 => ?_)
  refine ok_if_eq C 44 dX7_looks_37 (by decide) ?_ ?_
  · refine ok_aload_n C 0 dX7_looks_44 rfl ?_
    refine ok_getI C frX7_107_11 dX7_looks_45 (fun v2 => ?_)
    exact ok_ireturn C dX7_looks_48
  · refine ok_iload_n C 1 dX7_looks_40 rfl ?_
    refine ok_goto C 48 dX7_looks_41 (by decide) ?_
    exact ok_ireturn C dX7_looks_48
set_option maxHeartbeats 4000000 in
theorem oX7_looks {Γ : CX} (C : OKC Γ cX7_looks RX7 (some (.int))) (T : ∀ z ∈ (cx_c Γ).exceptionTable.toList, False) (hn : cx_nL Γ = 3) (hR : cx_fr Γ = 2 ∧ cx_lo Γ = 82) (hin : (cx_meth Γ).name = yX7_looks.name) : ∀ (a0 : Nat) (x1 : Int32) (x2 : Int32) (s0 : AS), OK Γ 0 [(0, .ref a0), (1, .int x1), (2, .int x2)] [] (fX7_looks a0 x1 x2 s0) s0 := by
  intro a0 x1 x2 s0
  unfold fX7_looks
  refine ok_aload_n C 0 dX7_looks_0 rfl ?_
  refine ok_getI C frX7_97_11 dX7_looks_1 (fun v1 => ?_)
  refine ok_iconst C (v := 2) dX7_looks_4 (by decide) ?_
  refine ok_icmp_eq C 16 dX7_looks_5 (by decide) ?_ ?_
  · refine ok_aload_n C 0 dX7_looks_16 rfl ?_
    refine ok_getI C frX7_107_11 dX7_looks_17 (fun v2 => ?_)
    refine ok_iload_n C 1 dX7_looks_20 rfl ?_
    refine ok_iload_n C 2 dX7_looks_21 rfl ?_
    refine ok_callS C T [.int v2, .int x1, .int x2] (F := fX7_in v2 x1 x2) (ctX7_in (C.2.2.2.2.2.2.2.2.1) v2 x1 x2) vlX7_143 kw_793 rfl (by rw [hR.1, hR.2]; decide) (Nat.le_of_ble_eq_true rfl) dX7_looks_22 (ok_qI fun v3 s4 => ?_)
    refine ok_if_ne C 33 dX7_looks_25 (by decide) ?_ ?_
    · refine OK.sub (lv' := [(0, .ref a0), (1, .int x1)]) [0, 1] rfl ?_
      exact oX7_looks_33 C T hn hR hin a0 x1 s4
    · refine ok_aload_n C 0 dX7_looks_28 rfl ?_
      refine ok_iconst C (v := 2) dX7_looks_29 (by decide) ?_
      refine ok_callV C T [.int 2] (F := fX7_fails a0 2) (ctX7_fails (C.2.2.2.2.2.2.2.2.1) a0 2) vlX7_116 viX7_fails rfl rfl (by decide) rfl (by rw [hR.1, hR.2]; decide) (Nat.le_of_ble_eq_true rfl) dX7_looks_30 (ok_qV fun s5 => ?_)
      refine OK.sub (lv' := [(0, .ref a0), (1, .int x1)]) [0, 1] rfl ?_
      exact oX7_looks_33 C T hn hR hin a0 x1 s5
  · refine ok_aload_n C 0 dX7_looks_8 rfl ?_
    refine ok_iconst C (v := 1) dX7_looks_9 (by decide) ?_
    refine ok_callV C T [.int 1] (F := fX7_fails a0 1) (ctX7_fails (C.2.2.2.2.2.2.2.2.1) a0 1) vlX7_116 viX7_fails rfl rfl (by decide) rfl (by rw [hR.1, hR.2]; decide) (Nat.le_of_ble_eq_true rfl) dX7_looks_10 (ok_qV fun s6 => ?_)
    refine ok_goto C 33 dX7_looks_13 (by decide) ?_
    refine OK.sub (lv' := [(0, .ref a0), (1, .int x1)]) [0, 1] rfl ?_
    exact oX7_looks_33 C T hn hR hin a0 x1 s6
theorem ctX7_looks {l : Launch} (hl : l.stackTraces = false) {D : va_G} {dA : Nat → ClassId} {B0 : Nat} (a0 : Nat) (x1 : Int32) (x2 : Int32) : Ct l D dA B0 yX7_looks (.code yX7_looks cX7_looks 3 (some (.int)) :: ax_ALL) 2 82 [.ref a0, .int x1, .int x2] (fX7_looks a0 x1 x2) :=
  Ct.of hl (by decide +kernel) (Nat.le_of_ble_eq_true rfl) fun Γ C _ _ _ _ e5 e6 e7 T hin => oX7_looks C T e5 ⟨e6, e7⟩ hin a0 x1 x2 _
/-! ChaseLockerModel.takes(II)I -/
def fX7_takes (a0 : Nat) (x1 : Int32) (x2 : Int32) (s0 : AS) : Option AR :=
  cV s0 a0 11 (fX7_looks a0 x1 x2 s0) (qI (fun v1 s2 =>
  cV s2 a0 11 (fX7_goesOn a0 s2) (qV (fun s3 =>
  some (.inl (some (.int v1)), s3)))))
set_option maxHeartbeats 4000000 in
theorem oX7_takes {Γ : CX} (C : OKC Γ cX7_takes RX7 (some (.int))) (T : ∀ z ∈ (cx_c Γ).exceptionTable.toList, False) (hn : cx_nL Γ = 4) (hR : cx_fr Γ = 4 ∧ cx_lo Γ = 122) (hin : (cx_meth Γ).name = yX7_takes.name) : ∀ (a0 : Nat) (x1 : Int32) (x2 : Int32) (s0 : AS), OK Γ 0 [(0, .ref a0), (1, .int x1), (2, .int x2)] [] (fX7_takes a0 x1 x2 s0) s0 := by
  intro a0 x1 x2 s0
  unfold fX7_takes
  refine ok_aload_n C 0 dX7_takes_0 rfl ?_
  refine ok_iload_n C 1 dX7_takes_1 rfl ?_
  refine ok_iload_n C 2 dX7_takes_2 rfl ?_
  refine ok_callV C T [.int x1, .int x2] (F := fX7_looks a0 x1 x2) (ctX7_looks (C.2.2.2.2.2.2.2.2.1) a0 x1 x2) vlX7_147 viX7_looks rfl rfl (by decide) rfl (by rw [hR.1, hR.2]; decide) (Nat.le_of_ble_eq_true rfl) dX7_takes_3 (ok_qI fun v1 s2 => ?_)
  refine ok_istore_n C (i := 3) [(3, .int v1), (0, .ref a0), (1, .int x1), (2, .int x2)] dX7_takes_6 rfl (by rw [hn]; decide) rfl ?_
  refine ok_aload_n C 1 dX7_takes_7 rfl ?_
  refine ok_callV C T [] (F := fX7_goesOn a0) (ctX7_goesOn (C.2.2.2.2.2.2.2.2.1) a0) vlX7_140 viX7_goesOn rfl rfl (by decide) rfl (by rw [hR.1, hR.2]; decide) (Nat.le_of_ble_eq_true rfl) dX7_takes_8 (ok_qV fun s3 => ?_)
  refine ok_iload_n C 0 dX7_takes_11 rfl ?_
  exact ok_ireturn C dX7_takes_12
theorem ctX7_takes {l : Launch} (hl : l.stackTraces = false) {D : va_G} {dA : Nat → ClassId} {B0 : Nat} (a0 : Nat) (x1 : Int32) (x2 : Int32) : Ct l D dA B0 yX7_takes (.code yX7_takes cX7_takes 4 (some (.int)) :: ax_ALL) 4 122 [.ref a0, .int x1, .int x2] (fX7_takes a0 x1 x2) :=
  Ct.of hl (by decide +kernel) (Nat.le_of_ble_eq_true rfl) fun Γ C _ _ _ _ e5 e6 e7 T hin => oX7_takes C T e5 ⟨e6, e7⟩ hin a0 x1 x2 _
/-! ChaseLockerModel.holds()V -/
def fX7_holds_65  (a0 : Nat) (s0 : AS) : Option AR :=
  gR s0 a0 11 29 (fun q1 =>
  gI s0 a0 11 2 (fun v2 =>
  uI s0 q1 0 v2 (fun s3 =>
  gR s3 a0 11 29 (fun q4 =>
  gI s3 a0 11 3 (fun v5 =>
  uI s3 q4 1 v5 (fun s6 =>
  gR s6 a0 11 29 (fun q7 =>
  gI s6 a0 11 4 (fun v8 =>
  uI s6 q7 2 v8 (fun s9 =>
  gR s9 a0 11 29 (fun q10 =>
  gI s9 a0 11 5 (fun v11 =>
  uI s9 q10 3 v11 (fun s12 =>
  gR s12 a0 11 29 (fun q13 =>
  gI s12 a0 11 6 (fun v14 =>
  uI s12 q13 4 v14 (fun s15 =>
  gR s15 a0 11 29 (fun q16 =>
  gI s15 a0 11 7 (fun v17 =>
  uI s15 q16 5 v17 (fun s18 =>
  gR s18 a0 11 29 (fun q19 =>
  gI s18 a0 11 8 (fun v20 =>
  uI s18 q19 6 v20 (fun s21 =>
  gR s21 a0 11 29 (fun q22 =>
  gI s21 a0 11 9 (fun v23 =>
  uI s21 q22 7 v23 (fun s24 =>
  some (.inl none, s24)))))))))))))))))))))))))
def fX7_holds_29  : Nat → Nat → Int32 → AS → Option AR
  | 0, _, _, _ => none
  | n + 1, a0, x1, s0 =>
    if (10 : Int32) ≤ x1 then (
      fX7_holds_65 a0 s0)
    else (
      gR s0 a0 11 30 (fun q1 =>
      gR s0 a0 11 11 (fun q2 =>
      aI s0 q2 100 x1 (fun v3 =>
      uI s0 q1 x1 v3 (fun s4 =>
      gR s4 a0 11 31 (fun q5 =>
      gR s4 a0 11 10 (fun q6 =>
      aI s4 q6 101 x1 (fun v7 =>
      uN 101 .boolean s4 q5 x1 v7 (fun s8 =>
      lt (x1 + 1) (fun v9 =>
      fX7_holds_29 n a0 v9 s8))))))))))
def fX7_holds_27  (a0 : Nat) (s0 : AS) : Option AR :=
  fX7_holds_29 FU a0 0 s0
def fX7_holds_2  : Nat → Nat → Int32 → AS → Option AR
  | 0, _, _, _ => none
  | n + 1, a0, x1, s0 =>
    if (4112 : Int32) ≤ x1 then (
      fX7_holds_27 a0 s0)
    else (
      gR s0 a0 11 28 (fun q1 =>
      gR s0 a0 11 12 (fun q2 =>
      aI s0 q2 100 x1 (fun v3 =>
      uI s0 q1 x1 v3 (fun s4 =>
      lt (x1 + 1) (fun v5 =>
      fX7_holds_2 n a0 v5 s4))))))
def fX7_holds (a0 : Nat) (s0 : AS) : Option AR :=
  fX7_holds_2 FU a0 0 s0
set_option maxHeartbeats 4000000 in
theorem oX7_holds_65 {Γ : CX} (C : OKC Γ cX7_holds RX7 none) (T : ∀ z ∈ (cx_c Γ).exceptionTable.toList, False) (hn : cx_nL Γ = 2) (hR : cx_fr Γ = 1 ∧ cx_lo Γ = 60) (hin : (cx_meth Γ).name = yX7_holds.name) : ∀ (a0 : Nat) (s0 : AS), OK Γ 65 [(0, .ref a0)] [] (fX7_holds_65  a0 s0) s0 := by
  intro a0 s0
  unfold fX7_holds_65
  refine ok_aload_n C 0 dX7_holds_65 rfl ?_
  refine ok_getR C frX7_40_11 dX7_holds_66 (fun q1 => ?_)
  refine ok_iconst C (v := 0) dX7_holds_69 (by decide) ?_
  refine ok_aload_n C 0 dX7_holds_70 rfl ?_
  refine ok_getI C frX7_151_11 dX7_holds_71 (fun v2 => ?_)
  refine ok_iast C dX7_holds_74 (fun s3 _ => ?_)
  refine ok_aload_n C 0 dX7_holds_75 rfl ?_
  refine ok_getR C frX7_40_11 dX7_holds_76 (fun q4 => ?_)
  refine ok_iconst C (v := 1) dX7_holds_79 (by decide) ?_
  refine ok_aload_n C 0 dX7_holds_80 rfl ?_
  refine ok_getI C frX7_154_11 dX7_holds_81 (fun v5 => ?_)
  refine ok_iast C dX7_holds_84 (fun s6 _ => ?_)
  refine ok_aload_n C 0 dX7_holds_85 rfl ?_
  refine ok_getR C frX7_40_11 dX7_holds_86 (fun q7 => ?_)
  refine ok_iconst C (v := 2) dX7_holds_89 (by decide) ?_
  refine ok_aload_n C 0 dX7_holds_90 rfl ?_
  refine ok_getI C frX7_157_11 dX7_holds_91 (fun v8 => ?_)
  refine ok_iast C dX7_holds_94 (fun s9 _ => ?_)
  refine ok_aload_n C 0 dX7_holds_95 rfl ?_
  refine ok_getR C frX7_40_11 dX7_holds_96 (fun q10 => ?_)
  refine ok_iconst C (v := 3) dX7_holds_99 (by decide) ?_
  refine ok_aload_n C 0 dX7_holds_100 rfl ?_
  refine ok_getI C frX7_160_11 dX7_holds_101 (fun v11 => ?_)
  refine ok_iast C dX7_holds_104 (fun s12 _ => ?_)
  refine ok_aload_n C 0 dX7_holds_105 rfl ?_
  refine ok_getR C frX7_40_11 dX7_holds_106 (fun q13 => ?_)
  refine ok_iconst C (v := 4) dX7_holds_109 (by decide) ?_
  refine ok_aload_n C 0 dX7_holds_110 rfl ?_
  refine ok_getI C frX7_163_11 dX7_holds_111 (fun v14 => ?_)
  refine ok_iast C dX7_holds_114 (fun s15 _ => ?_)
  refine ok_aload_n C 0 dX7_holds_115 rfl ?_
  refine ok_getR C frX7_40_11 dX7_holds_116 (fun q16 => ?_)
  refine ok_iconst C (v := 5) dX7_holds_119 (by decide) ?_
  refine ok_aload_n C 0 dX7_holds_120 rfl ?_
  refine ok_getI C frX7_166_11 dX7_holds_121 (fun v17 => ?_)
  refine ok_iast C dX7_holds_124 (fun s18 _ => ?_)
  refine ok_aload_n C 0 dX7_holds_125 rfl ?_
  refine ok_getR C frX7_40_11 dX7_holds_126 (fun q19 => ?_)
  refine ok_bipush C (v := 6) dX7_holds_129 (by decide) ?_
  refine ok_aload_n C 0 dX7_holds_131 rfl ?_
  refine ok_getI C frX7_169_11 dX7_holds_132 (fun v20 => ?_)
  refine ok_iast C dX7_holds_135 (fun s21 _ => ?_)
  refine ok_aload_n C 0 dX7_holds_136 rfl ?_
  refine ok_getR C frX7_40_11 dX7_holds_137 (fun q22 => ?_)
  refine ok_bipush C (v := 7) dX7_holds_140 (by decide) ?_
  refine ok_aload_n C 0 dX7_holds_142 rfl ?_
  refine ok_getI C frX7_172_11 dX7_holds_143 (fun v23 => ?_)
  refine ok_iast C dX7_holds_146 (fun s24 _ => ?_)
  exact ok_vreturn C dX7_holds_147
set_option maxHeartbeats 4000000 in
theorem oX7_holds_29 {Γ : CX} (C : OKC Γ cX7_holds RX7 none) (T : ∀ z ∈ (cx_c Γ).exceptionTable.toList, False) (hn : cx_nL Γ = 2) (hR : cx_fr Γ = 1 ∧ cx_lo Γ = 60) (hin : (cx_meth Γ).name = yX7_holds.name) : ∀ (n : Nat) (a0 : Nat) (x1 : Int32) (s0 : AS), OK Γ 29 [(0, .ref a0), (1, .int x1)] [] (fX7_holds_29 n a0 x1 s0) s0 := by
  intro n
  induction n with
  | zero => intro _ _ s0; exact OK.none
  | succ n ih =>
    intro a0 x1 s0
    rw [fX7_holds_29]
    refine ok_iload_n C 1 dX7_holds_29 rfl ?_
    refine ok_bipush C (v := 10) dX7_holds_30 (by decide) ?_
    refine ok_icmp_ge C 65 dX7_holds_32 (by decide) ?_ ?_
    · refine OK.sub (lv' := [(0, .ref a0)]) [0] rfl ?_
      exact oX7_holds_65 C T hn hR hin a0 s0
    · refine ok_aload_n C 0 dX7_holds_35 rfl ?_
      refine ok_getR C frX7_43_11 dX7_holds_36 (fun q1 => ?_)
      refine ok_iload_n C 1 dX7_holds_39 rfl ?_
      refine ok_aload_n C 0 dX7_holds_40 rfl ?_
      refine ok_getR C frX7_13_11 dX7_holds_41 (fun q2 => ?_)
      refine ok_iload_n C 1 dX7_holds_44 rfl ?_
      refine ok_iald C dX7_holds_45 (fun v3 => ?_)
      refine ok_iast C dX7_holds_46 (fun s4 _ => ?_)
      refine ok_aload_n C 0 dX7_holds_47 rfl ?_
      refine ok_getR C frX7_46_11 dX7_holds_48 (fun q5 => ?_)
      refine ok_iload_n C 1 dX7_holds_51 rfl ?_
      refine ok_aload_n C 0 dX7_holds_52 rfl ?_
      refine ok_getR C frX7_7_11 dX7_holds_53 (fun q6 => ?_)
      refine ok_iload_n C 1 dX7_holds_56 rfl ?_
      refine ok_zald C dX7_holds_57 (fun v7 => ?_)
      refine ok_zast C dX7_holds_58 (fun s8 _ => ?_)
      refine ok_iincL C 1 (c := 1) (fun v9 => [(1, .int v9), (0, .ref a0)]) dX7_holds_59 rfl rfl (by rw [hn]; decide) (fun _ => rfl) (fun v9 => ?_)
      refine ok_goto C 29 dX7_holds_62 (by decide) ?_
      refine OK.sub (lv' := [(0, .ref a0), (1, .int v9)]) [1, 0] rfl ?_
      exact ih a0 v9 s8
set_option maxHeartbeats 4000000 in
theorem oX7_holds_27 {Γ : CX} (C : OKC Γ cX7_holds RX7 none) (T : ∀ z ∈ (cx_c Γ).exceptionTable.toList, False) (hn : cx_nL Γ = 2) (hR : cx_fr Γ = 1 ∧ cx_lo Γ = 60) (hin : (cx_meth Γ).name = yX7_holds.name) : ∀ (a0 : Nat) (s0 : AS), OK Γ 27 [(0, .ref a0)] [] (fX7_holds_27  a0 s0) s0 := by
  intro a0 s0
  unfold fX7_holds_27
  refine ok_iconst C (v := 0) dX7_holds_27 (by decide) ?_
  refine ok_istore_n C (i := 1) [(1, .int 0), (0, .ref a0)] dX7_holds_28 rfl (by rw [hn]; decide) rfl ?_
  refine OK.sub (lv' := [(0, .ref a0), (1, .int 0)]) [1, 0] rfl ?_
  exact oX7_holds_29 C T hn hR hin FU a0 0 s0
set_option maxHeartbeats 4000000 in
theorem oX7_holds_2 {Γ : CX} (C : OKC Γ cX7_holds RX7 none) (T : ∀ z ∈ (cx_c Γ).exceptionTable.toList, False) (hn : cx_nL Γ = 2) (hR : cx_fr Γ = 1 ∧ cx_lo Γ = 60) (hin : (cx_meth Γ).name = yX7_holds.name) : ∀ (n : Nat) (a0 : Nat) (x1 : Int32) (s0 : AS), OK Γ 2 [(0, .ref a0), (1, .int x1)] [] (fX7_holds_2 n a0 x1 s0) s0 := by
  intro n
  induction n with
  | zero => intro _ _ s0; exact OK.none
  | succ n ih =>
    intro a0 x1 s0
    rw [fX7_holds_2]
    refine ok_iload_n C 1 dX7_holds_2 rfl ?_
    refine ok_sipush C (v := 4112) dX7_holds_3 (by decide) ?_
    refine ok_icmp_ge C 27 dX7_holds_6 (by decide) ?_ ?_
    · refine OK.sub (lv' := [(0, .ref a0)]) [0] rfl ?_
      exact oX7_holds_27 C T hn hR hin a0 s0
    · refine ok_aload_n C 0 dX7_holds_9 rfl ?_
      refine ok_getR C frX7_37_11 dX7_holds_10 (fun q1 => ?_)
      refine ok_iload_n C 1 dX7_holds_13 rfl ?_
      refine ok_aload_n C 0 dX7_holds_14 rfl ?_
      refine ok_getR C frX7_17_11 dX7_holds_15 (fun q2 => ?_)
      refine ok_iload_n C 1 dX7_holds_18 rfl ?_
      refine ok_iald C dX7_holds_19 (fun v3 => ?_)
      refine ok_iast C dX7_holds_20 (fun s4 _ => ?_)
      refine ok_iincL C 1 (c := 1) (fun v5 => [(1, .int v5), (0, .ref a0)]) dX7_holds_21 rfl rfl (by rw [hn]; decide) (fun _ => rfl) (fun v5 => ?_)
      refine ok_goto C 2 dX7_holds_24 (by decide) ?_
      refine OK.sub (lv' := [(0, .ref a0), (1, .int v5)]) [1, 0] rfl ?_
      exact ih a0 v5 s4
set_option maxHeartbeats 4000000 in
theorem oX7_holds {Γ : CX} (C : OKC Γ cX7_holds RX7 none) (T : ∀ z ∈ (cx_c Γ).exceptionTable.toList, False) (hn : cx_nL Γ = 2) (hR : cx_fr Γ = 1 ∧ cx_lo Γ = 60) (hin : (cx_meth Γ).name = yX7_holds.name) : ∀ (a0 : Nat) (s0 : AS), OK Γ 0 [(0, .ref a0)] [] (fX7_holds a0 s0) s0 := by
  intro a0 s0
  unfold fX7_holds
  refine ok_iconst C (v := 0) dX7_holds_0 (by decide) ?_
  refine ok_istore_n C (i := 1) [(1, .int 0), (0, .ref a0)] dX7_holds_1 rfl (by rw [hn]; decide) rfl ?_
  refine OK.sub (lv' := [(0, .ref a0), (1, .int 0)]) [1, 0] rfl ?_
  exact oX7_holds_2 C T hn hR hin FU a0 0 s0
theorem ctX7_holds {l : Launch} (hl : l.stackTraces = false) {D : va_G} {dA : Nat → ClassId} {B0 : Nat} (a0 : Nat) : Ct l D dA B0 yX7_holds (.code yX7_holds cX7_holds 2 (none) :: ax_ALL) 1 60 [.ref a0] (fX7_holds a0) :=
  Ct.of hl (by decide +kernel) (Nat.le_of_ble_eq_true rfl) fun Γ C _ _ _ _ e5 e6 e7 T hin => oX7_holds C T e5 ⟨e6, e7⟩ hin a0 _
/-! ChaseLockerModel.laysBack()V -/
def fX7_laysBack_65  (a0 : Nat) (s0 : AS) : Option AR :=
  gR s0 a0 11 29 (fun q1 =>
  aI s0 q1 100 0 (fun v2 =>
  sI s0 a0 11 2 v2 (fun s3 =>
  gR s3 a0 11 29 (fun q4 =>
  aI s3 q4 100 1 (fun v5 =>
  sI s3 a0 11 3 v5 (fun s6 =>
  gR s6 a0 11 29 (fun q7 =>
  aI s6 q7 100 2 (fun v8 =>
  sI s6 a0 11 4 v8 (fun s9 =>
  gR s9 a0 11 29 (fun q10 =>
  aI s9 q10 100 3 (fun v11 =>
  sI s9 a0 11 5 v11 (fun s12 =>
  gR s12 a0 11 29 (fun q13 =>
  aI s12 q13 100 4 (fun v14 =>
  sI s12 a0 11 6 v14 (fun s15 =>
  gR s15 a0 11 29 (fun q16 =>
  aI s15 q16 100 5 (fun v17 =>
  sI s15 a0 11 7 v17 (fun s18 =>
  gR s18 a0 11 29 (fun q19 =>
  aI s18 q19 100 6 (fun v20 =>
  sI s18 a0 11 8 v20 (fun s21 =>
  gR s21 a0 11 29 (fun q22 =>
  aI s21 q22 100 7 (fun v23 =>
  sI s21 a0 11 9 v23 (fun s24 =>
  some (.inl none, s24)))))))))))))))))))))))))
def fX7_laysBack_29  : Nat → Nat → Int32 → AS → Option AR
  | 0, _, _, _ => none
  | n + 1, a0, x1, s0 =>
    if (10 : Int32) ≤ x1 then (
      fX7_laysBack_65 a0 s0)
    else (
      gR s0 a0 11 11 (fun q1 =>
      gR s0 a0 11 30 (fun q2 =>
      aI s0 q2 100 x1 (fun v3 =>
      uI s0 q1 x1 v3 (fun s4 =>
      gR s4 a0 11 10 (fun q5 =>
      gR s4 a0 11 31 (fun q6 =>
      aI s4 q6 101 x1 (fun v7 =>
      uN 101 .boolean s4 q5 x1 v7 (fun s8 =>
      lt (x1 + 1) (fun v9 =>
      fX7_laysBack_29 n a0 v9 s8))))))))))
def fX7_laysBack_27  (a0 : Nat) (s0 : AS) : Option AR :=
  fX7_laysBack_29 FU a0 0 s0
def fX7_laysBack_2  : Nat → Nat → Int32 → AS → Option AR
  | 0, _, _, _ => none
  | n + 1, a0, x1, s0 =>
    if (4112 : Int32) ≤ x1 then (
      fX7_laysBack_27 a0 s0)
    else (
      gR s0 a0 11 12 (fun q1 =>
      gR s0 a0 11 28 (fun q2 =>
      aI s0 q2 100 x1 (fun v3 =>
      uI s0 q1 x1 v3 (fun s4 =>
      lt (x1 + 1) (fun v5 =>
      fX7_laysBack_2 n a0 v5 s4))))))
def fX7_laysBack (a0 : Nat) (s0 : AS) : Option AR :=
  fX7_laysBack_2 FU a0 0 s0
set_option maxHeartbeats 4000000 in
theorem oX7_laysBack_65 {Γ : CX} (C : OKC Γ cX7_laysBack RX7 none) (T : ∀ z ∈ (cx_c Γ).exceptionTable.toList, False) (hn : cx_nL Γ = 2) (hR : cx_fr Γ = 1 ∧ cx_lo Γ = 60) (hin : (cx_meth Γ).name = yX7_laysBack.name) : ∀ (a0 : Nat) (s0 : AS), OK Γ 65 [(0, .ref a0)] [] (fX7_laysBack_65  a0 s0) s0 := by
  intro a0 s0
  unfold fX7_laysBack_65
  refine ok_aload_n C 0 dX7_laysBack_65 rfl ?_
  refine ok_aload_n C 0 dX7_laysBack_66 rfl ?_
  refine ok_getR C frX7_40_11 dX7_laysBack_67 (fun q1 => ?_)
  refine ok_iconst C (v := 0) dX7_laysBack_70 (by decide) ?_
  refine ok_iald C dX7_laysBack_71 (fun v2 => ?_)
  refine ok_putI C flX7_151_11 dX7_laysBack_72 (fun s3 _ => ?_)
  refine ok_aload_n C 0 dX7_laysBack_75 rfl ?_
  refine ok_aload_n C 0 dX7_laysBack_76 rfl ?_
  refine ok_getR C frX7_40_11 dX7_laysBack_77 (fun q4 => ?_)
  refine ok_iconst C (v := 1) dX7_laysBack_80 (by decide) ?_
  refine ok_iald C dX7_laysBack_81 (fun v5 => ?_)
  refine ok_putI C flX7_154_11 dX7_laysBack_82 (fun s6 _ => ?_)
  refine ok_aload_n C 0 dX7_laysBack_85 rfl ?_
  refine ok_aload_n C 0 dX7_laysBack_86 rfl ?_
  refine ok_getR C frX7_40_11 dX7_laysBack_87 (fun q7 => ?_)
  refine ok_iconst C (v := 2) dX7_laysBack_90 (by decide) ?_
  refine ok_iald C dX7_laysBack_91 (fun v8 => ?_)
  refine ok_putI C flX7_157_11 dX7_laysBack_92 (fun s9 _ => ?_)
  refine ok_aload_n C 0 dX7_laysBack_95 rfl ?_
  refine ok_aload_n C 0 dX7_laysBack_96 rfl ?_
  refine ok_getR C frX7_40_11 dX7_laysBack_97 (fun q10 => ?_)
  refine ok_iconst C (v := 3) dX7_laysBack_100 (by decide) ?_
  refine ok_iald C dX7_laysBack_101 (fun v11 => ?_)
  refine ok_putI C flX7_160_11 dX7_laysBack_102 (fun s12 _ => ?_)
  refine ok_aload_n C 0 dX7_laysBack_105 rfl ?_
  refine ok_aload_n C 0 dX7_laysBack_106 rfl ?_
  refine ok_getR C frX7_40_11 dX7_laysBack_107 (fun q13 => ?_)
  refine ok_iconst C (v := 4) dX7_laysBack_110 (by decide) ?_
  refine ok_iald C dX7_laysBack_111 (fun v14 => ?_)
  refine ok_putI C flX7_163_11 dX7_laysBack_112 (fun s15 _ => ?_)
  refine ok_aload_n C 0 dX7_laysBack_115 rfl ?_
  refine ok_aload_n C 0 dX7_laysBack_116 rfl ?_
  refine ok_getR C frX7_40_11 dX7_laysBack_117 (fun q16 => ?_)
  refine ok_iconst C (v := 5) dX7_laysBack_120 (by decide) ?_
  refine ok_iald C dX7_laysBack_121 (fun v17 => ?_)
  refine ok_putI C flX7_166_11 dX7_laysBack_122 (fun s18 _ => ?_)
  refine ok_aload_n C 0 dX7_laysBack_125 rfl ?_
  refine ok_aload_n C 0 dX7_laysBack_126 rfl ?_
  refine ok_getR C frX7_40_11 dX7_laysBack_127 (fun q19 => ?_)
  refine ok_bipush C (v := 6) dX7_laysBack_130 (by decide) ?_
  refine ok_iald C dX7_laysBack_132 (fun v20 => ?_)
  refine ok_putI C flX7_169_11 dX7_laysBack_133 (fun s21 _ => ?_)
  refine ok_aload_n C 0 dX7_laysBack_136 rfl ?_
  refine ok_aload_n C 0 dX7_laysBack_137 rfl ?_
  refine ok_getR C frX7_40_11 dX7_laysBack_138 (fun q22 => ?_)
  refine ok_bipush C (v := 7) dX7_laysBack_141 (by decide) ?_
  refine ok_iald C dX7_laysBack_143 (fun v23 => ?_)
  refine ok_putI C flX7_172_11 dX7_laysBack_144 (fun s24 _ => ?_)
  exact ok_vreturn C dX7_laysBack_147
set_option maxHeartbeats 4000000 in
theorem oX7_laysBack_29 {Γ : CX} (C : OKC Γ cX7_laysBack RX7 none) (T : ∀ z ∈ (cx_c Γ).exceptionTable.toList, False) (hn : cx_nL Γ = 2) (hR : cx_fr Γ = 1 ∧ cx_lo Γ = 60) (hin : (cx_meth Γ).name = yX7_laysBack.name) : ∀ (n : Nat) (a0 : Nat) (x1 : Int32) (s0 : AS), OK Γ 29 [(0, .ref a0), (1, .int x1)] [] (fX7_laysBack_29 n a0 x1 s0) s0 := by
  intro n
  induction n with
  | zero => intro _ _ s0; exact OK.none
  | succ n ih =>
    intro a0 x1 s0
    rw [fX7_laysBack_29]
    refine ok_iload_n C 1 dX7_laysBack_29 rfl ?_
    refine ok_bipush C (v := 10) dX7_laysBack_30 (by decide) ?_
    refine ok_icmp_ge C 65 dX7_laysBack_32 (by decide) ?_ ?_
    · refine OK.sub (lv' := [(0, .ref a0)]) [0] rfl ?_
      exact oX7_laysBack_65 C T hn hR hin a0 s0
    · refine ok_aload_n C 0 dX7_laysBack_35 rfl ?_
      refine ok_getR C frX7_13_11 dX7_laysBack_36 (fun q1 => ?_)
      refine ok_iload_n C 1 dX7_laysBack_39 rfl ?_
      refine ok_aload_n C 0 dX7_laysBack_40 rfl ?_
      refine ok_getR C frX7_43_11 dX7_laysBack_41 (fun q2 => ?_)
      refine ok_iload_n C 1 dX7_laysBack_44 rfl ?_
      refine ok_iald C dX7_laysBack_45 (fun v3 => ?_)
      refine ok_iast C dX7_laysBack_46 (fun s4 _ => ?_)
      refine ok_aload_n C 0 dX7_laysBack_47 rfl ?_
      refine ok_getR C frX7_7_11 dX7_laysBack_48 (fun q5 => ?_)
      refine ok_iload_n C 1 dX7_laysBack_51 rfl ?_
      refine ok_aload_n C 0 dX7_laysBack_52 rfl ?_
      refine ok_getR C frX7_46_11 dX7_laysBack_53 (fun q6 => ?_)
      refine ok_iload_n C 1 dX7_laysBack_56 rfl ?_
      refine ok_zald C dX7_laysBack_57 (fun v7 => ?_)
      refine ok_zast C dX7_laysBack_58 (fun s8 _ => ?_)
      refine ok_iincL C 1 (c := 1) (fun v9 => [(1, .int v9), (0, .ref a0)]) dX7_laysBack_59 rfl rfl (by rw [hn]; decide) (fun _ => rfl) (fun v9 => ?_)
      refine ok_goto C 29 dX7_laysBack_62 (by decide) ?_
      refine OK.sub (lv' := [(0, .ref a0), (1, .int v9)]) [1, 0] rfl ?_
      exact ih a0 v9 s8
set_option maxHeartbeats 4000000 in
theorem oX7_laysBack_27 {Γ : CX} (C : OKC Γ cX7_laysBack RX7 none) (T : ∀ z ∈ (cx_c Γ).exceptionTable.toList, False) (hn : cx_nL Γ = 2) (hR : cx_fr Γ = 1 ∧ cx_lo Γ = 60) (hin : (cx_meth Γ).name = yX7_laysBack.name) : ∀ (a0 : Nat) (s0 : AS), OK Γ 27 [(0, .ref a0)] [] (fX7_laysBack_27  a0 s0) s0 := by
  intro a0 s0
  unfold fX7_laysBack_27
  refine ok_iconst C (v := 0) dX7_laysBack_27 (by decide) ?_
  refine ok_istore_n C (i := 1) [(1, .int 0), (0, .ref a0)] dX7_laysBack_28 rfl (by rw [hn]; decide) rfl ?_
  refine OK.sub (lv' := [(0, .ref a0), (1, .int 0)]) [1, 0] rfl ?_
  exact oX7_laysBack_29 C T hn hR hin FU a0 0 s0
set_option maxHeartbeats 4000000 in
theorem oX7_laysBack_2 {Γ : CX} (C : OKC Γ cX7_laysBack RX7 none) (T : ∀ z ∈ (cx_c Γ).exceptionTable.toList, False) (hn : cx_nL Γ = 2) (hR : cx_fr Γ = 1 ∧ cx_lo Γ = 60) (hin : (cx_meth Γ).name = yX7_laysBack.name) : ∀ (n : Nat) (a0 : Nat) (x1 : Int32) (s0 : AS), OK Γ 2 [(0, .ref a0), (1, .int x1)] [] (fX7_laysBack_2 n a0 x1 s0) s0 := by
  intro n
  induction n with
  | zero => intro _ _ s0; exact OK.none
  | succ n ih =>
    intro a0 x1 s0
    rw [fX7_laysBack_2]
    refine ok_iload_n C 1 dX7_laysBack_2 rfl ?_
    refine ok_sipush C (v := 4112) dX7_laysBack_3 (by decide) ?_
    refine ok_icmp_ge C 27 dX7_laysBack_6 (by decide) ?_ ?_
    · refine OK.sub (lv' := [(0, .ref a0)]) [0] rfl ?_
      exact oX7_laysBack_27 C T hn hR hin a0 s0
    · refine ok_aload_n C 0 dX7_laysBack_9 rfl ?_
      refine ok_getR C frX7_17_11 dX7_laysBack_10 (fun q1 => ?_)
      refine ok_iload_n C 1 dX7_laysBack_13 rfl ?_
      refine ok_aload_n C 0 dX7_laysBack_14 rfl ?_
      refine ok_getR C frX7_37_11 dX7_laysBack_15 (fun q2 => ?_)
      refine ok_iload_n C 1 dX7_laysBack_18 rfl ?_
      refine ok_iald C dX7_laysBack_19 (fun v3 => ?_)
      refine ok_iast C dX7_laysBack_20 (fun s4 _ => ?_)
      refine ok_iincL C 1 (c := 1) (fun v5 => [(1, .int v5), (0, .ref a0)]) dX7_laysBack_21 rfl rfl (by rw [hn]; decide) (fun _ => rfl) (fun v5 => ?_)
      refine ok_goto C 2 dX7_laysBack_24 (by decide) ?_
      refine OK.sub (lv' := [(0, .ref a0), (1, .int v5)]) [1, 0] rfl ?_
      exact ih a0 v5 s4
set_option maxHeartbeats 4000000 in
theorem oX7_laysBack {Γ : CX} (C : OKC Γ cX7_laysBack RX7 none) (T : ∀ z ∈ (cx_c Γ).exceptionTable.toList, False) (hn : cx_nL Γ = 2) (hR : cx_fr Γ = 1 ∧ cx_lo Γ = 60) (hin : (cx_meth Γ).name = yX7_laysBack.name) : ∀ (a0 : Nat) (s0 : AS), OK Γ 0 [(0, .ref a0)] [] (fX7_laysBack a0 s0) s0 := by
  intro a0 s0
  unfold fX7_laysBack
  refine ok_iconst C (v := 0) dX7_laysBack_0 (by decide) ?_
  refine ok_istore_n C (i := 1) [(1, .int 0), (0, .ref a0)] dX7_laysBack_1 rfl (by rw [hn]; decide) rfl ?_
  refine OK.sub (lv' := [(0, .ref a0), (1, .int 0)]) [1, 0] rfl ?_
  exact oX7_laysBack_2 C T hn hR hin FU a0 0 s0
theorem ctX7_laysBack {l : Launch} (hl : l.stackTraces = false) {D : va_G} {dA : Nat → ClassId} {B0 : Nat} (a0 : Nat) : Ct l D dA B0 yX7_laysBack (.code yX7_laysBack cX7_laysBack 2 (none) :: ax_ALL) 1 60 [.ref a0] (fX7_laysBack a0) :=
  Ct.of hl (by decide +kernel) (Nat.le_of_ble_eq_true rfl) fun Γ C _ _ _ _ e5 e6 e7 T hin => oX7_laysBack C T e5 ⟨e6, e7⟩ hin a0 _
/-! ChaseLockerModel.puts(III)V -/
def fX7_puts (a0 : Nat) (x1 : Int32) (x2 : Int32) (x3 : Int32) (s0 : AS) : Option AR :=
  gR s0 a0 11 12 (fun q1 =>
  uI s0 q1 ((16 + (512 * x1)) + x2) x3 (fun s2 =>
  some (.inl none, s2)))
set_option maxHeartbeats 4000000 in
theorem oX7_puts {Γ : CX} (C : OKC Γ cX7_puts RX7 none) (T : ∀ z ∈ (cx_c Γ).exceptionTable.toList, False) (hn : cx_nL Γ = 4) (hR : cx_fr Γ = 1 ∧ cx_lo Γ = 60) (hin : (cx_meth Γ).name = yX7_puts.name) : ∀ (a0 : Nat) (x1 : Int32) (x2 : Int32) (x3 : Int32) (s0 : AS), OK Γ 0 [(0, .ref a0), (1, .int x1), (2, .int x2), (3, .int x3)] [] (fX7_puts a0 x1 x2 x3 s0) s0 := by
  intro a0 x1 x2 x3 s0
  unfold fX7_puts
  refine ok_aload_n C 0 dX7_puts_0 rfl ?_
  refine ok_getR C frX7_17_11 dX7_puts_1 (fun q1 => ?_)
  refine ok_bipush C (v := 16) dX7_puts_4 (by decide) ?_
  refine ok_sipush C (v := 512) dX7_puts_6 (by decide) ?_
  refine ok_iload_n C 1 dX7_puts_9 rfl ?_
  refine ok_imul C dX7_puts_10 ?_
  refine ok_iadd C dX7_puts_11 ?_
  refine ok_iload_n C 2 dX7_puts_12 rfl ?_
  refine ok_iadd C dX7_puts_13 ?_
  refine ok_iload_n C 3 dX7_puts_14 rfl ?_
  refine ok_iast C dX7_puts_15 (fun s2 _ => ?_)
  exact ok_vreturn C dX7_puts_16
theorem ctX7_puts {l : Launch} (hl : l.stackTraces = false) {D : va_G} {dA : Nat → ClassId} {B0 : Nat} (a0 : Nat) (x1 : Int32) (x2 : Int32) (x3 : Int32) : Ct l D dA B0 yX7_puts (.code yX7_puts cX7_puts 4 (none) :: ax_ALL) 1 60 [.ref a0, .int x1, .int x2, .int x3] (fX7_puts a0 x1 x2 x3) :=
  Ct.of hl (by decide +kernel) (Nat.le_of_ble_eq_true rfl) fun Γ C _ _ _ _ e5 e6 e7 T hin => oX7_puts C T e5 ⟨e6, e7⟩ hin a0 x1 x2 x3 _
/-! ChaseLockerModel.clears()V -/
def fX7_clears_34  : Nat → Nat → Int32 → AS → Option AR
  | 0, _, _, _ => none
  | n + 1, a0, x1, s0 =>
    if (8 : Int32) ≤ x1 then (
      some (.inl none, s0))
    else (
      cV s0 a0 11 (fX7_puts a0 x1 2 ((-1)) s0) (qV (fun s1 =>
      lt (x1 + 1) (fun v2 =>
      fX7_clears_34 n a0 v2 s1))))
def fX7_clears_32  (a0 : Nat) (s0 : AS) : Option AR :=
  fX7_clears_34 FU a0 0 s0
def fX7_clears_12  : Nat → Nat → Int32 → AS → Option AR
  | 0, _, _, _ => none
  | n + 1, a0, x1, s0 =>
    if (4112 : Int32) ≤ x1 then (
      fX7_clears_32 a0 s0)
    else (
      gR s0 a0 11 12 (fun q1 =>
      uI s0 q1 x1 0 (fun s2 =>
      lt (x1 + 1) (fun v3 =>
      fX7_clears_12 n a0 v3 s2))))
def fX7_clears (a0 : Nat) (s0 : AS) : Option AR :=
  sI s0 a0 11 9 0 (fun s1 =>
  sI s1 a0 11 32 0 (fun s2 =>
  fX7_clears_12 FU a0 0 s2))
set_option maxHeartbeats 4000000 in
theorem oX7_clears_34 {Γ : CX} (C : OKC Γ cX7_clears RX7 none) (T : ∀ z ∈ (cx_c Γ).exceptionTable.toList, False) (hn : cx_nL Γ = 2) (hR : cx_fr Γ = 2 ∧ cx_lo Γ = 83) (hin : (cx_meth Γ).name = yX7_clears.name) : ∀ (n : Nat) (a0 : Nat) (x1 : Int32) (s0 : AS), OK Γ 34 [(0, .ref a0), (1, .int x1)] [] (fX7_clears_34 n a0 x1 s0) s0 := by
  intro n
  induction n with
  | zero => intro _ _ s0; exact OK.none
  | succ n ih =>
    intro a0 x1 s0
    rw [fX7_clears_34]
    refine ok_iload_n C 1 dX7_clears_34 rfl ?_
    refine ok_bipush C (v := 8) dX7_clears_35 (by decide) ?_
    refine ok_icmp_ge C 53 dX7_clears_37 (by decide) ?_ ?_
    · exact ok_vreturn C dX7_clears_53
    · refine ok_aload_n C 0 dX7_clears_40 rfl ?_
      refine ok_iload_n C 1 dX7_clears_41 rfl ?_
      refine ok_iconst C (v := 2) dX7_clears_42 (by decide) ?_
      refine ok_iconst C (v := (-1)) dX7_clears_43 (by decide) ?_
      refine ok_callV C T [.int x1, .int 2, .int ((-1))] (F := fX7_puts a0 x1 2 ((-1))) (ctX7_puts (C.2.2.2.2.2.2.2.2.1) a0 x1 2 ((-1))) vlX7_178 viX7_puts rfl rfl (by decide) rfl (by rw [hR.1, hR.2]; decide) (Nat.le_of_ble_eq_true rfl) dX7_clears_44 (ok_qV fun s1 => ?_)
      refine ok_iincL C 1 (c := 1) (fun v2 => [(1, .int v2), (0, .ref a0)]) dX7_clears_47 rfl rfl (by rw [hn]; decide) (fun _ => rfl) (fun v2 => ?_)
      refine ok_goto C 34 dX7_clears_50 (by decide) ?_
      refine OK.sub (lv' := [(0, .ref a0), (1, .int v2)]) [1, 0] rfl ?_
      exact ih a0 v2 s1
set_option maxHeartbeats 4000000 in
theorem oX7_clears_32 {Γ : CX} (C : OKC Γ cX7_clears RX7 none) (T : ∀ z ∈ (cx_c Γ).exceptionTable.toList, False) (hn : cx_nL Γ = 2) (hR : cx_fr Γ = 2 ∧ cx_lo Γ = 83) (hin : (cx_meth Γ).name = yX7_clears.name) : ∀ (a0 : Nat) (s0 : AS), OK Γ 32 [(0, .ref a0)] [] (fX7_clears_32  a0 s0) s0 := by
  intro a0 s0
  unfold fX7_clears_32
  refine ok_iconst C (v := 0) dX7_clears_32 (by decide) ?_
  refine ok_istore_n C (i := 1) [(1, .int 0), (0, .ref a0)] dX7_clears_33 rfl (by rw [hn]; decide) rfl ?_
  refine OK.sub (lv' := [(0, .ref a0), (1, .int 0)]) [1, 0] rfl ?_
  exact oX7_clears_34 C T hn hR hin FU a0 0 s0
set_option maxHeartbeats 4000000 in
theorem oX7_clears_12 {Γ : CX} (C : OKC Γ cX7_clears RX7 none) (T : ∀ z ∈ (cx_c Γ).exceptionTable.toList, False) (hn : cx_nL Γ = 2) (hR : cx_fr Γ = 2 ∧ cx_lo Γ = 83) (hin : (cx_meth Γ).name = yX7_clears.name) : ∀ (n : Nat) (a0 : Nat) (x1 : Int32) (s0 : AS), OK Γ 12 [(0, .ref a0), (1, .int x1)] [] (fX7_clears_12 n a0 x1 s0) s0 := by
  intro n
  induction n with
  | zero => intro _ _ s0; exact OK.none
  | succ n ih =>
    intro a0 x1 s0
    rw [fX7_clears_12]
    refine ok_iload_n C 1 dX7_clears_12 rfl ?_
    refine ok_sipush C (v := 4112) dX7_clears_13 (by decide) ?_
    refine ok_icmp_ge C 32 dX7_clears_16 (by decide) ?_ ?_
    · refine OK.sub (lv' := [(0, .ref a0)]) [0] rfl ?_
      exact oX7_clears_32 C T hn hR hin a0 s0
    · refine ok_aload_n C 0 dX7_clears_19 rfl ?_
      refine ok_getR C frX7_17_11 dX7_clears_20 (fun q1 => ?_)
      refine ok_iload_n C 1 dX7_clears_23 rfl ?_
      refine ok_iconst C (v := 0) dX7_clears_24 (by decide) ?_
      refine ok_iast C dX7_clears_25 (fun s2 _ => ?_)
      refine ok_iincL C 1 (c := 1) (fun v3 => [(1, .int v3), (0, .ref a0)]) dX7_clears_26 rfl rfl (by rw [hn]; decide) (fun _ => rfl) (fun v3 => ?_)
      refine ok_goto C 12 dX7_clears_29 (by decide) ?_
      refine OK.sub (lv' := [(0, .ref a0), (1, .int v3)]) [1, 0] rfl ?_
      exact ih a0 v3 s2
set_option maxHeartbeats 4000000 in
theorem oX7_clears {Γ : CX} (C : OKC Γ cX7_clears RX7 none) (T : ∀ z ∈ (cx_c Γ).exceptionTable.toList, False) (hn : cx_nL Γ = 2) (hR : cx_fr Γ = 2 ∧ cx_lo Γ = 83) (hin : (cx_meth Γ).name = yX7_clears.name) : ∀ (a0 : Nat) (s0 : AS), OK Γ 0 [(0, .ref a0)] [] (fX7_clears a0 s0) s0 := by
  intro a0 s0
  unfold fX7_clears
  refine ok_aload_n C 0 dX7_clears_0 rfl ?_
  refine ok_iconst C (v := 0) dX7_clears_1 (by decide) ?_
  refine ok_putI C flX7_172_11 dX7_clears_2 (fun s1 _ => ?_)
  refine ok_aload_n C 0 dX7_clears_5 rfl ?_
  refine ok_iconst C (v := 0) dX7_clears_6 (by decide) ?_
  refine ok_putI C flX7_175_11 dX7_clears_7 (fun s2 _ => ?_)
  refine ok_iconst C (v := 0) dX7_clears_10 (by decide) ?_
  refine ok_istore_n C (i := 1) [(1, .int 0), (0, .ref a0)] dX7_clears_11 rfl (by rw [hn]; decide) rfl ?_
  refine OK.sub (lv' := [(0, .ref a0), (1, .int 0)]) [1, 0] rfl ?_
  exact oX7_clears_12 C T hn hR hin FU a0 0 s2
theorem ctX7_clears {l : Launch} (hl : l.stackTraces = false) {D : va_G} {dA : Nat → ClassId} {B0 : Nat} (a0 : Nat) : Ct l D dA B0 yX7_clears (.code yX7_clears cX7_clears 2 (none) :: ax_ALL) 2 83 [.ref a0] (fX7_clears a0) :=
  Ct.of hl (by decide +kernel) (Nat.le_of_ble_eq_true rfl) fun Γ C _ _ _ _ e5 e6 e7 T hin => oX7_clears C T e5 ⟨e6, e7⟩ hin a0 _
/-! ChaseLockerModel.ofLength(ZI)I -/
def fX7_ofLength_32 (r2 : Nat → Int32 → Int32 → Int32 → AS → Option AR) (a0 : Nat) (x1 : Int32) (x2 : Int32) (x3 : Int32) (s0 : AS) : Option AR :=
  lt (x3 + 1) (fun v1 =>
  r2 a0 x1 x2 v1 s0)
def fX7_ofLength_2  : Nat → Nat → Int32 → Int32 → Int32 → AS → Option AR
  | 0, _, _, _, _, _ => none
  | n + 1, a0, x1, x2, x3, s0 =>
    gI s0 a0 11 9 (fun v1 =>
    if v1 ≤ x3 then (
      some (.inl (some (.int ((-1)))), s0))
    else (
      gR s0 a0 11 10 (fun q2 =>
      aI s0 q2 101 x3 (fun v3 =>
      if v3 = x1 then (
        gR s0 a0 11 11 (fun q4 =>
        aI s0 q4 100 x3 (fun v5 =>
        if v5 = x2 then (
          some (.inl (some (.int x3)), s0))
        else (
          fX7_ofLength_32 (fX7_ofLength_2 n) a0 x1 x2 x3 s0))))
      else (
        fX7_ofLength_32 (fX7_ofLength_2 n) a0 x1 x2 x3 s0)))))
def fX7_ofLength (a0 : Nat) (x1 : Int32) (x2 : Int32) (s0 : AS) : Option AR :=
  fX7_ofLength_2 FU a0 x1 x2 0 s0
set_option maxHeartbeats 4000000 in
theorem oX7_ofLength_32 {Γ : CX} (C : OKC Γ cX7_ofLength RX7 (some (.int))) (T : ∀ z ∈ (cx_c Γ).exceptionTable.toList, False) (hn : cx_nL Γ = 4) (hR : cx_fr Γ = 1 ∧ cx_lo Γ = 60) (hin : (cx_meth Γ).name = yX7_ofLength.name) {r2 : Nat → Int32 → Int32 → Int32 → AS → Option AR} (h2 : ∀ (a0 : Nat) (x1 : Int32) (x2 : Int32) (x3 : Int32) (s0 : AS), OK Γ 2 [(0, .ref a0), (1, .int x1), (2, .int x2), (3, .int x3)] [] (r2 a0 x1 x2 x3 s0) s0) : ∀ (a0 : Nat) (x1 : Int32) (x2 : Int32) (x3 : Int32) (s0 : AS), OK Γ 32 [(0, .ref a0), (1, .int x1), (2, .int x2), (3, .int x3)] [] (fX7_ofLength_32 r2 a0 x1 x2 x3 s0) s0 := by
  intro a0 x1 x2 x3 s0
  unfold fX7_ofLength_32
  refine ok_iincL C 3 (c := 1) (fun v1 => [(3, .int v1), (0, .ref a0), (1, .int x1), (2, .int x2)]) dX7_ofLength_32 rfl rfl (by rw [hn]; decide) (fun _ => rfl) (fun v1 => ?_)
  refine ok_goto C 2 dX7_ofLength_35 (by decide) ?_
  refine OK.sub (lv' := [(0, .ref a0), (1, .int x1), (2, .int x2), (3, .int v1)]) [1, 2, 3, 0] rfl ?_
  exact h2 a0 x1 x2 v1 s0
set_option maxHeartbeats 4000000 in
theorem oX7_ofLength_2 {Γ : CX} (C : OKC Γ cX7_ofLength RX7 (some (.int))) (T : ∀ z ∈ (cx_c Γ).exceptionTable.toList, False) (hn : cx_nL Γ = 4) (hR : cx_fr Γ = 1 ∧ cx_lo Γ = 60) (hin : (cx_meth Γ).name = yX7_ofLength.name) : ∀ (n : Nat) (a0 : Nat) (x1 : Int32) (x2 : Int32) (x3 : Int32) (s0 : AS), OK Γ 2 [(0, .ref a0), (1, .int x1), (2, .int x2), (3, .int x3)] [] (fX7_ofLength_2 n a0 x1 x2 x3 s0) s0 := by
  intro n
  induction n with
  | zero => intro _ _ _ _ s0; exact OK.none
  | succ n ih =>
    intro a0 x1 x2 x3 s0
    rw [fX7_ofLength_2]
    refine ok_iload_n C 3 dX7_ofLength_2 rfl ?_
    refine ok_aload_n C 0 dX7_ofLength_3 rfl ?_
    refine ok_getI C frX7_172_11 dX7_ofLength_4 (fun v1 => ?_)
    refine ok_icmp_ge C 38 dX7_ofLength_7 (by decide) ?_ ?_
    · refine ok_iconst C (v := (-1)) dX7_ofLength_38 (by decide) ?_
      exact ok_ireturn C dX7_ofLength_39
    · refine ok_aload_n C 0 dX7_ofLength_10 rfl ?_
      refine ok_getR C frX7_7_11 dX7_ofLength_11 (fun q2 => ?_)
      refine ok_iload_n C 3 dX7_ofLength_14 rfl ?_
      refine ok_zald C dX7_ofLength_15 (fun v3 => ?_)
      refine ok_iload_n C 1 dX7_ofLength_16 rfl ?_
      refine ok_icmp_ne C 32 dX7_ofLength_17 (by decide) ?_ ?_
      · exact oX7_ofLength_32 C T hn hR hin ih a0 x1 x2 x3 s0
      · refine ok_aload_n C 0 dX7_ofLength_20 rfl ?_
        refine ok_getR C frX7_13_11 dX7_ofLength_21 (fun q4 => ?_)
        refine ok_iload_n C 3 dX7_ofLength_24 rfl ?_
        refine ok_iald C dX7_ofLength_25 (fun v5 => ?_)
        refine ok_iload_n C 2 dX7_ofLength_26 rfl ?_
        refine ok_icmp_ne C 32 dX7_ofLength_27 (by decide) ?_ ?_
        · exact oX7_ofLength_32 C T hn hR hin ih a0 x1 x2 x3 s0
        · refine ok_iload_n C 3 dX7_ofLength_30 rfl ?_
          exact ok_ireturn C dX7_ofLength_31
set_option maxHeartbeats 4000000 in
theorem oX7_ofLength {Γ : CX} (C : OKC Γ cX7_ofLength RX7 (some (.int))) (T : ∀ z ∈ (cx_c Γ).exceptionTable.toList, False) (hn : cx_nL Γ = 4) (hR : cx_fr Γ = 1 ∧ cx_lo Γ = 60) (hin : (cx_meth Γ).name = yX7_ofLength.name) : ∀ (a0 : Nat) (x1 : Int32) (x2 : Int32) (s0 : AS), OK Γ 0 [(0, .ref a0), (1, .int x1), (2, .int x2)] [] (fX7_ofLength a0 x1 x2 s0) s0 := by
  intro a0 x1 x2 s0
  unfold fX7_ofLength
  refine ok_iconst C (v := 0) dX7_ofLength_0 (by decide) ?_
  refine ok_istore_n C (i := 3) [(3, .int 0), (0, .ref a0), (1, .int x1), (2, .int x2)] dX7_ofLength_1 rfl (by rw [hn]; decide) rfl ?_
  refine OK.sub (lv' := [(0, .ref a0), (1, .int x1), (2, .int x2), (3, .int 0)]) [1, 2, 3, 0] rfl ?_
  exact oX7_ofLength_2 C T hn hR hin FU a0 x1 x2 0 s0
theorem ctX7_ofLength {l : Launch} (hl : l.stackTraces = false) {D : va_G} {dA : Nat → ClassId} {B0 : Nat} (a0 : Nat) (x1 : Int32) (x2 : Int32) : Ct l D dA B0 yX7_ofLength (.code yX7_ofLength cX7_ofLength 4 (some (.int)) :: ax_ALL) 1 60 [.ref a0, .int x1, .int x2] (fX7_ofLength a0 x1 x2) :=
  Ct.of hl (by decide +kernel) (Nat.le_of_ble_eq_true rfl) fun Γ C _ _ _ _ e5 e6 e7 T hin => oX7_ofLength C T e5 ⟨e6, e7⟩ hin a0 x1 x2 _
/-! ChaseLockerModel.kindLine(Z)V -/
def fX7_kindLine_54  (a0 : Nat) (x1 : Int32) (x2 : Int32) (t0 : Nat) (t1 : Int32) (s0 : AS) : Option AR :=
  cV s0 t0 11 (fX7_failsIf t0 t1 3 s0) (qV (fun s1 =>
  cV s1 a0 11 (fX7_goesOn a0 s1) (qV (fun s2 =>
  cV s2 a0 11 (fX7_takes a0 0 99 s2) (qI (fun v3 s4 =>
  gI s4 a0 11 26 (fun v5 =>
  if v5 = 0 then (
    gR s4 a0 11 10 (fun q6 =>
    gI s4 a0 11 9 (fun v7 =>
    uN 101 .boolean s4 q6 v7 x1 (fun s8 =>
    gR s8 a0 11 11 (fun q9 =>
    gI s8 a0 11 9 (fun v10 =>
    uI s8 q9 v10 x2 (fun s11 =>
    gR s11 a0 11 12 (fun q12 =>
    gI s11 a0 11 9 (fun v13 =>
    uI s11 q12 (6 + v13) v3 (fun s14 =>
    gI s14 a0 11 9 (fun v15 =>
    sI s14 a0 11 9 (v15 + 1) (fun s16 =>
    some (.inl none, s16)))))))))))))
  else (
    some (.inl none, s4)))))))))
def fX7_kindLine_53  (a0 : Nat) (x1 : Int32) (x2 : Int32) (t0 : Nat) (s0 : AS) : Option AR :=
  fX7_kindLine_54 a0 x1 x2 t0 0 s0
def fX7_kindLine_15  (a0 : Nat) (x1 : Int32) (t0 : Nat) (t1 : Int32) (s0 : AS) : Option AR :=
  cV s0 t0 11 (fX7_failsIf t0 t1 4 s0) (qV (fun s1 =>
  cV s1 a0 11 (fX7_goesOn a0 s1) (qV (fun s2 =>
  cV s2 a0 11 (fX7_looks a0 1 99 s2) (qI (fun v3 s4 =>
  gI s4 a0 11 26 (fun v5 =>
  if v5 = 0 then (
    cV s4 a0 11 (fX7_ofLength a0 x1 v3 s4) (qI (fun v6 s7 =>
    if v6 = (-1 : Int32) then (
      fX7_kindLine_53 a0 x1 v3 a0 s7)
    else (
      fX7_kindLine_54 a0 x1 v3 a0 1 s7))))
  else (
    fX7_kindLine_53 a0 x1 v3 a0 s4))))))))
def fX7_kindLine (a0 : Nat) (x1 : Int32) (s0 : AS) : Option AR :=
  gI s0 a0 11 9 (fun v1 =>
  if v1 = (10 : Int32) then (
    fX7_kindLine_15 a0 x1 a0 1 s0)
  else (
    fX7_kindLine_15 a0 x1 a0 0 s0))
set_option maxHeartbeats 4000000 in
theorem oX7_kindLine_54 {Γ : CX} (C : OKC Γ cX7_kindLine RX7 none) (T : ∀ z ∈ (cx_c Γ).exceptionTable.toList, False) (hn : cx_nL Γ = 4) (hR : cx_fr Γ = 5 ∧ cx_lo Γ = 145) (hin : (cx_meth Γ).name = yX7_kindLine.name) : ∀ (a0 : Nat) (x1 : Int32) (x2 : Int32) (t0 : Nat) (t1 : Int32) (s0 : AS), OK Γ 54 [(0, .ref a0), (1, .int x1), (2, .int x2)] [.int t1, .ref t0] (fX7_kindLine_54  a0 x1 x2 t0 t1 s0) s0 := by
  intro a0 x1 x2 t0 t1 s0
  unfold fX7_kindLine_54
  refine ok_iconst C (v := 3) dX7_kindLine_54 (by decide) ?_
  refine ok_callV C T [.int t1, .int 3] (F := fX7_failsIf t0 t1 3) (ctX7_failsIf (C.2.2.2.2.2.2.2.2.1) t0 t1 3) vlX7_136 viX7_failsIf rfl rfl (by decide) rfl (by rw [hR.1, hR.2]; decide) (Nat.le_of_ble_eq_true rfl) dX7_kindLine_55 (ok_qV fun s1 => ?_)
  refine ok_aload_n C 0 dX7_kindLine_58 rfl ?_
  refine ok_callV C T [] (F := fX7_goesOn a0) (ctX7_goesOn (C.2.2.2.2.2.2.2.2.1) a0) vlX7_140 viX7_goesOn rfl rfl (by decide) rfl (by rw [hR.1, hR.2]; decide) (Nat.le_of_ble_eq_true rfl) dX7_kindLine_59 (ok_qV fun s2 => ?_)
  refine ok_aload_n C 0 dX7_kindLine_62 rfl ?_
  refine ok_iconst C (v := 0) dX7_kindLine_63 (by decide) ?_
  refine ok_bipush C (v := 99) dX7_kindLine_64 (by decide) ?_
  refine ok_callV C T [.int 0, .int 99] (F := fX7_takes a0 0 99) (ctX7_takes (C.2.2.2.2.2.2.2.2.1) a0 0 99) vlX7_186 viX7_takes rfl rfl (by decide) rfl (by rw [hR.1, hR.2]; decide) (Nat.le_of_ble_eq_true rfl) dX7_kindLine_66 (ok_qI fun v3 s4 => ?_)
  refine ok_istore_n C (i := 3) [(3, .int v3), (0, .ref a0), (1, .int x1), (2, .int x2)] dX7_kindLine_69 rfl (by rw [hn]; decide) rfl ?_
  refine ok_aload_n C 1 dX7_kindLine_70 rfl ?_
  refine ok_getI C frX7_110_11 dX7_kindLine_71 (fun v5 => ?_)
  refine ok_if_ne C 120 dX7_kindLine_74 (by decide) ?_ ?_
  · exact ok_vreturn C dX7_kindLine_120
  · refine ok_aload_n C 1 dX7_kindLine_77 rfl ?_
    refine ok_getR C frX7_7_11 dX7_kindLine_78 (fun q6 => ?_)
    refine ok_aload_n C 1 dX7_kindLine_81 rfl ?_
    refine ok_getI C frX7_172_11 dX7_kindLine_82 (fun v7 => ?_)
    refine ok_iload_n C 2 dX7_kindLine_85 rfl ?_
    refine ok_zast C dX7_kindLine_86 (fun s8 _ => ?_)
    refine ok_aload_n C 1 dX7_kindLine_87 rfl ?_
    refine ok_getR C frX7_13_11 dX7_kindLine_88 (fun q9 => ?_)
    refine ok_aload_n C 1 dX7_kindLine_91 rfl ?_
    refine ok_getI C frX7_172_11 dX7_kindLine_92 (fun v10 => ?_)
    refine ok_iload_n C 3 dX7_kindLine_95 rfl ?_
    refine ok_iast C dX7_kindLine_96 (fun s11 _ => ?_)
    refine ok_aload_n C 1 dX7_kindLine_97 rfl ?_
    refine ok_getR C frX7_17_11 dX7_kindLine_98 (fun q12 => ?_)
    refine ok_bipush C (v := 6) dX7_kindLine_101 (by decide) ?_
    refine ok_aload_n C 1 dX7_kindLine_103 rfl ?_
    refine ok_getI C frX7_172_11 dX7_kindLine_104 (fun v13 => ?_)
    refine ok_iadd C dX7_kindLine_107 ?_
    refine ok_iload_n C 0 dX7_kindLine_108 rfl ?_
    refine ok_iast C dX7_kindLine_109 (fun s14 _ => ?_)
    refine ok_aload_n C 1 dX7_kindLine_110 rfl ?_
    refine ok_dup C dX7_kindLine_111 rfl ?_
    refine ok_getI C frX7_172_11 dX7_kindLine_112 (fun v15 => ?_)
    refine ok_iconst C (v := 1) dX7_kindLine_115 (by decide) ?_
    refine ok_iadd C dX7_kindLine_116 ?_
    refine ok_putI C flX7_172_11 dX7_kindLine_117 (fun s16 _ => ?_)
    exact ok_vreturn C dX7_kindLine_120
set_option maxHeartbeats 4000000 in
theorem oX7_kindLine_53 {Γ : CX} (C : OKC Γ cX7_kindLine RX7 none) (T : ∀ z ∈ (cx_c Γ).exceptionTable.toList, False) (hn : cx_nL Γ = 4) (hR : cx_fr Γ = 5 ∧ cx_lo Γ = 145) (hin : (cx_meth Γ).name = yX7_kindLine.name) : ∀ (a0 : Nat) (x1 : Int32) (x2 : Int32) (t0 : Nat) (s0 : AS), OK Γ 53 [(0, .ref a0), (1, .int x1), (2, .int x2)] [.ref t0] (fX7_kindLine_53  a0 x1 x2 t0 s0) s0 := by
  intro a0 x1 x2 t0 s0
  unfold fX7_kindLine_53
  refine ok_iconst C (v := 0) dX7_kindLine_53 (by decide) ?_
  exact oX7_kindLine_54 C T hn hR hin a0 x1 x2 t0 0 s0
set_option maxHeartbeats 4000000 in
theorem oX7_kindLine_15 {Γ : CX} (C : OKC Γ cX7_kindLine RX7 none) (T : ∀ z ∈ (cx_c Γ).exceptionTable.toList, False) (hn : cx_nL Γ = 4) (hR : cx_fr Γ = 5 ∧ cx_lo Γ = 145) (hin : (cx_meth Γ).name = yX7_kindLine.name) : ∀ (a0 : Nat) (x1 : Int32) (t0 : Nat) (t1 : Int32) (s0 : AS), OK Γ 15 [(0, .ref a0), (1, .int x1)] [.int t1, .ref t0] (fX7_kindLine_15  a0 x1 t0 t1 s0) s0 := by
  intro a0 x1 t0 t1 s0
  unfold fX7_kindLine_15
  refine ok_iconst C (v := 4) dX7_kindLine_15 (by decide) ?_
  refine ok_callV C T [.int t1, .int 4] (F := fX7_failsIf t0 t1 4) (ctX7_failsIf (C.2.2.2.2.2.2.2.2.1) t0 t1 4) vlX7_136 viX7_failsIf rfl rfl (by decide) rfl (by rw [hR.1, hR.2]; decide) (Nat.le_of_ble_eq_true rfl) dX7_kindLine_16 (ok_qV fun s1 => ?_)
  refine ok_aload_n C 0 dX7_kindLine_19 rfl ?_
  refine ok_callV C T [] (F := fX7_goesOn a0) (ctX7_goesOn (C.2.2.2.2.2.2.2.2.1) a0) vlX7_140 viX7_goesOn rfl rfl (by decide) rfl (by rw [hR.1, hR.2]; decide) (Nat.le_of_ble_eq_true rfl) dX7_kindLine_20 (ok_qV fun s2 => ?_)
  refine ok_aload_n C 0 dX7_kindLine_23 rfl ?_
  refine ok_iconst C (v := 1) dX7_kindLine_24 (by decide) ?_
  refine ok_bipush C (v := 99) dX7_kindLine_25 (by decide) ?_
  refine ok_callV C T [.int 1, .int 99] (F := fX7_looks a0 1 99) (ctX7_looks (C.2.2.2.2.2.2.2.2.1) a0 1 99) vlX7_147 viX7_looks rfl rfl (by decide) rfl (by rw [hR.1, hR.2]; decide) (Nat.le_of_ble_eq_true rfl) dX7_kindLine_27 (ok_qI fun v3 s4 => ?_)
  refine ok_istore_n C (i := 2) [(2, .int v3), (0, .ref a0), (1, .int x1)] dX7_kindLine_30 rfl (by rw [hn]; decide) rfl ?_
  refine ok_aload_n C 1 dX7_kindLine_31 rfl ?_
  refine ok_aload_n C 1 dX7_kindLine_32 rfl ?_
  refine ok_getI C frX7_110_11 dX7_kindLine_33 (fun v5 => ?_)
  refine ok_if_ne C 53 dX7_kindLine_36 (by decide) ?_ ?_
  · refine OK.sub (lv' := [(0, .ref a0), (1, .int x1), (2, .int v3)]) [1, 2, 0] rfl ?_
    exact oX7_kindLine_53 C T hn hR hin a0 x1 v3 a0 s4
  · refine ok_aload_n C 1 dX7_kindLine_39 rfl ?_
    refine ok_iload_n C 2 dX7_kindLine_40 rfl ?_
    refine ok_iload_n C 0 dX7_kindLine_41 rfl ?_
    refine ok_callV C T [.int x1, .int v3] (F := fX7_ofLength a0 x1 v3) (ctX7_ofLength (C.2.2.2.2.2.2.2.2.1) a0 x1 v3) vlX7_182 viX7_ofLength rfl rfl (by decide) rfl (by rw [hR.1, hR.2]; decide) (Nat.le_of_ble_eq_true rfl) dX7_kindLine_42 (ok_qI fun v6 s7 => ?_)
    refine ok_iconst C (v := (-1)) dX7_kindLine_45 (by decide) ?_
    refine ok_icmp_eq C 53 dX7_kindLine_46 (by decide) ?_ ?_
    · refine OK.sub (lv' := [(0, .ref a0), (1, .int x1), (2, .int v3)]) [1, 2, 0] rfl ?_
      exact oX7_kindLine_53 C T hn hR hin a0 x1 v3 a0 s7
    · refine ok_iconst C (v := 1) dX7_kindLine_49 (by decide) ?_
      refine ok_goto C 54 dX7_kindLine_50 (by decide) ?_
      refine OK.sub (lv' := [(0, .ref a0), (1, .int x1), (2, .int v3)]) [1, 2, 0] rfl ?_
      exact oX7_kindLine_54 C T hn hR hin a0 x1 v3 a0 1 s7
set_option maxHeartbeats 4000000 in
theorem oX7_kindLine {Γ : CX} (C : OKC Γ cX7_kindLine RX7 none) (T : ∀ z ∈ (cx_c Γ).exceptionTable.toList, False) (hn : cx_nL Γ = 4) (hR : cx_fr Γ = 5 ∧ cx_lo Γ = 145) (hin : (cx_meth Γ).name = yX7_kindLine.name) : ∀ (a0 : Nat) (x1 : Int32) (s0 : AS), OK Γ 0 [(0, .ref a0), (1, .int x1)] [] (fX7_kindLine a0 x1 s0) s0 := by
  intro a0 x1 s0
  unfold fX7_kindLine
  refine ok_aload_n C 0 dX7_kindLine_0 rfl ?_
  refine ok_aload_n C 0 dX7_kindLine_1 rfl ?_
  refine ok_getI C frX7_172_11 dX7_kindLine_2 (fun v1 => ?_)
  refine ok_bipush C (v := 10) dX7_kindLine_5 (by decide) ?_
  refine ok_icmp_ne C 14 dX7_kindLine_7 (by decide) ?_ ?_
  · refine ok_iconst C (v := 0) dX7_kindLine_14 (by decide) ?_
    exact oX7_kindLine_15 C T hn hR hin a0 x1 a0 0 s0
  · refine ok_iconst C (v := 1) dX7_kindLine_10 (by decide) ?_
    refine ok_goto C 15 dX7_kindLine_11 (by decide) ?_
    exact oX7_kindLine_15 C T hn hR hin a0 x1 a0 1 s0
theorem ctX7_kindLine {l : Launch} (hl : l.stackTraces = false) {D : va_G} {dA : Nat → ClassId} {B0 : Nat} (a0 : Nat) (x1 : Int32) : Ct l D dA B0 yX7_kindLine (.code yX7_kindLine cX7_kindLine 4 (none) :: ax_ALL) 5 145 [.ref a0, .int x1] (fX7_kindLine a0 x1) :=
  Ct.of hl (by decide +kernel) (Nat.le_of_ble_eq_true rfl) fun Γ C _ _ _ _ e5 e6 e7 T hin => oX7_kindLine C T e5 ⟨e6, e7⟩ hin a0 x1 _
/-! ChaseLockerModel.of(II)I -/
def fX7_of (a0 : Nat) (x1 : Int32) (x2 : Int32) (s0 : AS) : Option AR :=
  gR s0 a0 11 12 (fun q1 =>
  aI s0 q1 100 ((16 + (512 * x1)) + x2) (fun v2 =>
  some (.inl (some (.int v2)), s0)))
set_option maxHeartbeats 4000000 in
theorem oX7_of {Γ : CX} (C : OKC Γ cX7_of RX7 (some (.int))) (T : ∀ z ∈ (cx_c Γ).exceptionTable.toList, False) (hn : cx_nL Γ = 3) (hR : cx_fr Γ = 1 ∧ cx_lo Γ = 60) (hin : (cx_meth Γ).name = yX7_of.name) : ∀ (a0 : Nat) (x1 : Int32) (x2 : Int32) (s0 : AS), OK Γ 0 [(0, .ref a0), (1, .int x1), (2, .int x2)] [] (fX7_of a0 x1 x2 s0) s0 := by
  intro a0 x1 x2 s0
  unfold fX7_of
  refine ok_aload_n C 0 dX7_of_0 rfl ?_
  refine ok_getR C frX7_17_11 dX7_of_1 (fun q1 => ?_)
  refine ok_bipush C (v := 16) dX7_of_4 (by decide) ?_
  refine ok_sipush C (v := 512) dX7_of_6 (by decide) ?_
  refine ok_iload_n C 1 dX7_of_9 rfl ?_
  refine ok_imul C dX7_of_10 ?_
  refine ok_iadd C dX7_of_11 ?_
  refine ok_iload_n C 2 dX7_of_12 rfl ?_
  refine ok_iadd C dX7_of_13 ?_
  refine ok_iald C dX7_of_14 (fun v2 => ?_)
  exact ok_ireturn C dX7_of_15
theorem ctX7_of {l : Launch} (hl : l.stackTraces = false) {D : va_G} {dA : Nat → ClassId} {B0 : Nat} (a0 : Nat) (x1 : Int32) (x2 : Int32) : Ct l D dA B0 yX7_of (.code yX7_of cX7_of 3 (some (.int)) :: ax_ALL) 1 60 [.ref a0, .int x1, .int x2] (fX7_of a0 x1 x2) :=
  Ct.of hl (by decide +kernel) (Nat.le_of_ble_eq_true rfl) fun Γ C _ _ _ _ e5 e6 e7 T hin => oX7_of C T e5 ⟨e6, e7⟩ hin a0 x1 x2 _
/-! ChaseLockerModel.adds(II)V -/
def fX7_adds (a0 : Nat) (x1 : Int32) (x2 : Int32) (s0 : AS) : Option AR :=
  cV s0 a0 11 (fX7_of a0 x1 0 s0) (qI (fun v1 s2 =>
  cV s2 a0 11 (fX7_puts a0 x1 (5 + v1) x2 s2) (qV (fun s3 =>
  cV s3 a0 11 (fX7_of a0 x1 0 s3) (qI (fun v4 s5 =>
  cV s5 a0 11 (fX7_puts a0 x1 0 (v4 + 1) s5) (qV (fun s6 =>
  some (.inl none, s6)))))))))
set_option maxHeartbeats 4000000 in
theorem oX7_adds {Γ : CX} (C : OKC Γ cX7_adds RX7 none) (T : ∀ z ∈ (cx_c Γ).exceptionTable.toList, False) (hn : cx_nL Γ = 3) (hR : cx_fr Γ = 2 ∧ cx_lo Γ = 83) (hin : (cx_meth Γ).name = yX7_adds.name) : ∀ (a0 : Nat) (x1 : Int32) (x2 : Int32) (s0 : AS), OK Γ 0 [(0, .ref a0), (1, .int x1), (2, .int x2)] [] (fX7_adds a0 x1 x2 s0) s0 := by
  intro a0 x1 x2 s0
  unfold fX7_adds
  refine ok_aload_n C 0 dX7_adds_0 rfl ?_
  refine ok_iload_n C 1 dX7_adds_1 rfl ?_
  refine ok_iconst C (v := 5) dX7_adds_2 (by decide) ?_
  refine ok_aload_n C 0 dX7_adds_3 rfl ?_
  refine ok_iload_n C 1 dX7_adds_4 rfl ?_
  refine ok_iconst C (v := 0) dX7_adds_5 (by decide) ?_
  refine ok_callV C T [.int x1, .int 0] (F := fX7_of a0 x1 0) (ctX7_of (C.2.2.2.2.2.2.2.2.1) a0 x1 0) vlX7_189 viX7_of rfl rfl (by decide) rfl (by rw [hR.1, hR.2]; decide) (Nat.le_of_ble_eq_true rfl) dX7_adds_6 (ok_qI fun v1 s2 => ?_)
  refine ok_iadd C dX7_adds_9 ?_
  refine ok_iload_n C 2 dX7_adds_10 rfl ?_
  refine ok_callV C T [.int x1, .int (5 + v1), .int x2] (F := fX7_puts a0 x1 (5 + v1) x2) (ctX7_puts (C.2.2.2.2.2.2.2.2.1) a0 x1 (5 + v1) x2) vlX7_178 viX7_puts rfl rfl (by decide) rfl (by rw [hR.1, hR.2]; decide) (Nat.le_of_ble_eq_true rfl) dX7_adds_11 (ok_qV fun s3 => ?_)
  refine ok_aload_n C 0 dX7_adds_14 rfl ?_
  refine ok_iload_n C 1 dX7_adds_15 rfl ?_
  refine ok_iconst C (v := 0) dX7_adds_16 (by decide) ?_
  refine ok_aload_n C 0 dX7_adds_17 rfl ?_
  refine ok_iload_n C 1 dX7_adds_18 rfl ?_
  refine ok_iconst C (v := 0) dX7_adds_19 (by decide) ?_
  refine ok_callV C T [.int x1, .int 0] (F := fX7_of a0 x1 0) (ctX7_of (C.2.2.2.2.2.2.2.2.1) a0 x1 0) vlX7_189 viX7_of rfl rfl (by decide) rfl (by rw [hR.1, hR.2]; decide) (Nat.le_of_ble_eq_true rfl) dX7_adds_20 (ok_qI fun v4 s5 => ?_)
  refine ok_iconst C (v := 1) dX7_adds_23 (by decide) ?_
  refine ok_iadd C dX7_adds_24 ?_
  refine ok_callV C T [.int x1, .int 0, .int (v4 + 1)] (F := fX7_puts a0 x1 0 (v4 + 1)) (ctX7_puts (C.2.2.2.2.2.2.2.2.1) a0 x1 0 (v4 + 1)) vlX7_178 viX7_puts rfl rfl (by decide) rfl (by rw [hR.1, hR.2]; decide) (Nat.le_of_ble_eq_true rfl) dX7_adds_25 (ok_qV fun s6 => ?_)
  exact ok_vreturn C dX7_adds_28
theorem ctX7_adds {l : Launch} (hl : l.stackTraces = false) {D : va_G} {dA : Nat → ClassId} {B0 : Nat} (a0 : Nat) (x1 : Int32) (x2 : Int32) : Ct l D dA B0 yX7_adds (.code yX7_adds cX7_adds 3 (none) :: ax_ALL) 2 83 [.ref a0, .int x1, .int x2] (fX7_adds a0 x1 x2) :=
  Ct.of hl (by decide +kernel) (Nat.le_of_ble_eq_true rfl) fun Γ C _ _ _ _ e5 e6 e7 T hin => oX7_adds C T e5 ⟨e6, e7⟩ hin a0 x1 x2 _
/-! ChaseLockerModel.blocksLong(I)I -/
def fX7_blocksLong_4  : Nat → Nat → Int32 → Int32 → Int32 → AS → Option AR
  | 0, _, _, _, _, _ => none
  | n + 1, a0, x1, x2, x3, s0 =>
    cV s0 a0 11 (fX7_of a0 x1 0 s0) (qI (fun v1 s2 =>
    if v1 ≤ x3 then (
      some (.inl (some (.int x2)), s2))
    else (
      cV s2 a0 11 (fX7_of a0 x1 (5 + x3) s2) (qI (fun v3 s4 =>
      lt (x2 + v3) (fun v5 =>
      lt (x3 + 1) (fun v6 =>
      fX7_blocksLong_4 n a0 x1 v5 v6 s4)))))))
def fX7_blocksLong (a0 : Nat) (x1 : Int32) (s0 : AS) : Option AR :=
  fX7_blocksLong_4 FU a0 x1 0 0 s0
set_option maxHeartbeats 4000000 in
theorem oX7_blocksLong_4 {Γ : CX} (C : OKC Γ cX7_blocksLong RX7 (some (.int))) (T : ∀ z ∈ (cx_c Γ).exceptionTable.toList, False) (hn : cx_nL Γ = 4) (hR : cx_fr Γ = 2 ∧ cx_lo Γ = 82) (hin : (cx_meth Γ).name = yX7_blocksLong.name) : ∀ (n : Nat) (a0 : Nat) (x1 : Int32) (x2 : Int32) (x3 : Int32) (s0 : AS), OK Γ 4 [(0, .ref a0), (1, .int x1), (2, .int x2), (3, .int x3)] [] (fX7_blocksLong_4 n a0 x1 x2 x3 s0) s0 := by
  intro n
  induction n with
  | zero => intro _ _ _ _ s0; exact OK.none
  | succ n ih =>
    intro a0 x1 x2 x3 s0
    rw [fX7_blocksLong_4]
    refine ok_iload_n C 3 dX7_blocksLong_4 rfl ?_
    refine ok_aload_n C 0 dX7_blocksLong_5 rfl ?_
    refine ok_iload_n C 1 dX7_blocksLong_6 rfl ?_
    refine ok_iconst C (v := 0) dX7_blocksLong_7 (by decide) ?_
    refine ok_callV C T [.int x1, .int 0] (F := fX7_of a0 x1 0) (ctX7_of (C.2.2.2.2.2.2.2.2.1) a0 x1 0) vlX7_189 viX7_of rfl rfl (by decide) rfl (by rw [hR.1, hR.2]; decide) (Nat.le_of_ble_eq_true rfl) dX7_blocksLong_8 (ok_qI fun v1 s2 => ?_)
    refine ok_icmp_ge C 31 dX7_blocksLong_11 (by decide) ?_ ?_
    · refine ok_iload_n C 2 dX7_blocksLong_31 rfl ?_
      exact ok_ireturn C dX7_blocksLong_32
    · refine ok_iload_n C 2 dX7_blocksLong_14 rfl ?_
      refine ok_aload_n C 0 dX7_blocksLong_15 rfl ?_
      refine ok_iload_n C 1 dX7_blocksLong_16 rfl ?_
      refine ok_iconst C (v := 5) dX7_blocksLong_17 (by decide) ?_
      refine ok_iload_n C 3 dX7_blocksLong_18 rfl ?_
      refine ok_iadd C dX7_blocksLong_19 ?_
      refine ok_callV C T [.int x1, .int (5 + x3)] (F := fX7_of a0 x1 (5 + x3)) (ctX7_of (C.2.2.2.2.2.2.2.2.1) a0 x1 (5 + x3)) vlX7_189 viX7_of rfl rfl (by decide) rfl (by rw [hR.1, hR.2]; decide) (Nat.le_of_ble_eq_true rfl) dX7_blocksLong_20 (ok_qI fun v3 s4 => ?_)
      refine ok_iadd C dX7_blocksLong_23 ?_
      refine ok_lt (fun v5 => ?_)
      refine ok_istore_n C (i := 2) [(2, .int v5), (0, .ref a0), (1, .int x1), (3, .int x3)] dX7_blocksLong_24 rfl (by rw [hn]; decide) rfl ?_
      refine ok_iincL C 3 (c := 1) (fun v6 => [(3, .int v6), (2, .int v5), (0, .ref a0), (1, .int x1)]) dX7_blocksLong_25 rfl rfl (by rw [hn]; decide) (fun _ => rfl) (fun v6 => ?_)
      refine ok_goto C 4 dX7_blocksLong_28 (by decide) ?_
      refine OK.sub (lv' := [(0, .ref a0), (1, .int x1), (2, .int v5), (3, .int v6)]) [2, 3, 1, 0] rfl ?_
      exact ih a0 x1 v5 v6 s4
set_option maxHeartbeats 4000000 in
theorem oX7_blocksLong {Γ : CX} (C : OKC Γ cX7_blocksLong RX7 (some (.int))) (T : ∀ z ∈ (cx_c Γ).exceptionTable.toList, False) (hn : cx_nL Γ = 4) (hR : cx_fr Γ = 2 ∧ cx_lo Γ = 82) (hin : (cx_meth Γ).name = yX7_blocksLong.name) : ∀ (a0 : Nat) (x1 : Int32) (s0 : AS), OK Γ 0 [(0, .ref a0), (1, .int x1)] [] (fX7_blocksLong a0 x1 s0) s0 := by
  intro a0 x1 s0
  unfold fX7_blocksLong
  refine ok_iconst C (v := 0) dX7_blocksLong_0 (by decide) ?_
  refine ok_istore_n C (i := 2) [(2, .int 0), (0, .ref a0), (1, .int x1)] dX7_blocksLong_1 rfl (by rw [hn]; decide) rfl ?_
  refine ok_iconst C (v := 0) dX7_blocksLong_2 (by decide) ?_
  refine ok_istore_n C (i := 3) [(3, .int 0), (2, .int 0), (0, .ref a0), (1, .int x1)] dX7_blocksLong_3 rfl (by rw [hn]; decide) rfl ?_
  refine OK.sub (lv' := [(0, .ref a0), (1, .int x1), (2, .int 0), (3, .int 0)]) [2, 3, 1, 0] rfl ?_
  exact oX7_blocksLong_4 C T hn hR hin FU a0 x1 0 0 s0
theorem ctX7_blocksLong {l : Launch} (hl : l.stackTraces = false) {D : va_G} {dA : Nat → ClassId} {B0 : Nat} (a0 : Nat) (x1 : Int32) : Ct l D dA B0 yX7_blocksLong (.code yX7_blocksLong cX7_blocksLong 4 (some (.int)) :: ax_ALL) 2 82 [.ref a0, .int x1] (fX7_blocksLong a0 x1) :=
  Ct.of hl (by decide +kernel) (Nat.le_of_ble_eq_true rfl) fun Γ C _ _ _ _ e5 e6 e7 T hin => oX7_blocksLong C T e5 ⟨e6, e7⟩ hin a0 x1 _
/-! ChaseLockerModel.hasQuoin(I)Z -/
def fX7_hasQuoin (a0 : Nat) (x1 : Int32) (s0 : AS) : Option AR :=
  cV s0 a0 11 (fX7_of a0 x1 2 s0) (qI (fun v1 s2 =>
  if v1 = (-1 : Int32) then (
    rZ 0 s2)
  else (
    rZ 1 s2)))
set_option maxHeartbeats 4000000 in
theorem oX7_hasQuoin {Γ : CX} (C : OKC Γ cX7_hasQuoin RX7 (some (.boolean))) (T : ∀ z ∈ (cx_c Γ).exceptionTable.toList, False) (hn : cx_nL Γ = 2) (hR : cx_fr Γ = 2 ∧ cx_lo Γ = 82) (hin : (cx_meth Γ).name = yX7_hasQuoin.name) : ∀ (a0 : Nat) (x1 : Int32) (s0 : AS), OK Γ 0 [(0, .ref a0), (1, .int x1)] [] (fX7_hasQuoin a0 x1 s0) s0 := by
  intro a0 x1 s0
  unfold fX7_hasQuoin
  refine ok_aload_n C 0 dX7_hasQuoin_0 rfl ?_
  refine ok_iload_n C 1 dX7_hasQuoin_1 rfl ?_
  refine ok_iconst C (v := 2) dX7_hasQuoin_2 (by decide) ?_
  refine ok_callV C T [.int x1, .int 2] (F := fX7_of a0 x1 2) (ctX7_of (C.2.2.2.2.2.2.2.2.1) a0 x1 2) vlX7_189 viX7_of rfl rfl (by decide) rfl (by rw [hR.1, hR.2]; decide) (Nat.le_of_ble_eq_true rfl) dX7_hasQuoin_3 (ok_qI fun v1 s2 => ?_)
  refine ok_iconst C (v := (-1)) dX7_hasQuoin_6 (by decide) ?_
  refine ok_icmp_eq C 14 dX7_hasQuoin_7 (by decide) ?_ ?_
  · refine ok_iconst C (v := 0) dX7_hasQuoin_14 (by decide) ?_
    exact ok_zreturn C dX7_hasQuoin_15
  · refine ok_iconst C (v := 1) dX7_hasQuoin_10 (by decide) ?_
    refine ok_goto C 15 dX7_hasQuoin_11 (by decide) ?_
    exact ok_zreturn C dX7_hasQuoin_15
theorem ctX7_hasQuoin {l : Launch} (hl : l.stackTraces = false) {D : va_G} {dA : Nat → ClassId} {B0 : Nat} (a0 : Nat) (x1 : Int32) : Ct l D dA B0 yX7_hasQuoin (.code yX7_hasQuoin cX7_hasQuoin 2 (some (.boolean)) :: ax_ALL) 2 82 [.ref a0, .int x1] (fX7_hasQuoin a0 x1) :=
  Ct.of hl (by decide +kernel) (Nat.le_of_ble_eq_true rfl) fun Γ C _ _ _ _ e5 e6 e7 T hin => oX7_hasQuoin C T e5 ⟨e6, e7⟩ hin a0 x1 _
/-! ChaseLockerModel.quoinLong(I)I -/
def fX7_quoinLong (a0 : Nat) (x1 : Int32) (s0 : AS) : Option AR :=
  cV s0 a0 11 (fX7_hasQuoin a0 x1 s0) (qI (fun v1 s2 =>
  if v1 = 0 then (
    some (.inl (some (.int 0)), s2))
  else (
    gI s2 a0 11 4 (fun v3 =>
    cV s2 a0 11 (fX7_of a0 x1 2 s2) (qI (fun v4 s5 =>
    cV s5 a0 11 (fX7_of a0 x1 3 s5) (qI (fun v6 s7 =>
    some (.inl (some (.int ((v3 + v4) - v6))), s7)))))))))
set_option maxHeartbeats 4000000 in
theorem oX7_quoinLong {Γ : CX} (C : OKC Γ cX7_quoinLong RX7 (some (.int))) (T : ∀ z ∈ (cx_c Γ).exceptionTable.toList, False) (hn : cx_nL Γ = 2) (hR : cx_fr Γ = 3 ∧ cx_lo Γ = 103) (hin : (cx_meth Γ).name = yX7_quoinLong.name) : ∀ (a0 : Nat) (x1 : Int32) (s0 : AS), OK Γ 0 [(0, .ref a0), (1, .int x1)] [] (fX7_quoinLong a0 x1 s0) s0 := by
  intro a0 x1 s0
  unfold fX7_quoinLong
  refine ok_aload_n C 0 dX7_quoinLong_0 rfl ?_
  refine ok_iload_n C 1 dX7_quoinLong_1 rfl ?_
  refine ok_callV C T [.int x1] (F := fX7_hasQuoin a0 x1) (ctX7_hasQuoin (C.2.2.2.2.2.2.2.2.1) a0 x1) vlX7_238 viX7_hasQuoin rfl rfl (by decide) rfl (by rw [hR.1, hR.2]; decide) (Nat.le_of_ble_eq_true rfl) dX7_quoinLong_2 (ok_qI fun v1 s2 => ?_)
  refine ok_if_eq C 29 dX7_quoinLong_5 (by decide) ?_ ?_
  · refine ok_iconst C (v := 0) dX7_quoinLong_29 (by decide) ?_
    exact ok_ireturn C dX7_quoinLong_30
  · refine ok_aload_n C 0 dX7_quoinLong_8 rfl ?_
    refine ok_getI C frX7_157_11 dX7_quoinLong_9 (fun v3 => ?_)
    refine ok_aload_n C 0 dX7_quoinLong_12 rfl ?_
    refine ok_iload_n C 1 dX7_quoinLong_13 rfl ?_
    refine ok_iconst C (v := 2) dX7_quoinLong_14 (by decide) ?_
    refine ok_callV C T [.int x1, .int 2] (F := fX7_of a0 x1 2) (ctX7_of (C.2.2.2.2.2.2.2.2.1) a0 x1 2) vlX7_189 viX7_of rfl rfl (by decide) rfl (by rw [hR.1, hR.2]; decide) (Nat.le_of_ble_eq_true rfl) dX7_quoinLong_15 (ok_qI fun v4 s5 => ?_)
    refine ok_iadd C dX7_quoinLong_18 ?_
    refine ok_aload_n C 0 dX7_quoinLong_19 rfl ?_
    refine ok_iload_n C 1 dX7_quoinLong_20 rfl ?_
    refine ok_iconst C (v := 3) dX7_quoinLong_21 (by decide) ?_
    refine ok_callV C T [.int x1, .int 3] (F := fX7_of a0 x1 3) (ctX7_of (C.2.2.2.2.2.2.2.2.1) a0 x1 3) vlX7_189 viX7_of rfl rfl (by decide) rfl (by rw [hR.1, hR.2]; decide) (Nat.le_of_ble_eq_true rfl) dX7_quoinLong_22 (ok_qI fun v6 s7 => ?_)
    refine ok_isub C dX7_quoinLong_25 ?_
    refine ok_goto C 30 dX7_quoinLong_26 (by decide) ?_
    exact ok_ireturn C dX7_quoinLong_30
theorem ctX7_quoinLong {l : Launch} (hl : l.stackTraces = false) {D : va_G} {dA : Nat → ClassId} {B0 : Nat} (a0 : Nat) (x1 : Int32) : Ct l D dA B0 yX7_quoinLong (.code yX7_quoinLong cX7_quoinLong 2 (some (.int)) :: ax_ALL) 3 103 [.ref a0, .int x1] (fX7_quoinLong a0 x1) :=
  Ct.of hl (by decide +kernel) (Nat.le_of_ble_eq_true rfl) fun Γ C _ _ _ _ e5 e6 e7 T hin => oX7_quoinLong C T e5 ⟨e6, e7⟩ hin a0 x1 _
/-! ChaseLockerModel.filledLong(I)I -/
def fX7_filledLong_14  : Nat → Nat → Int32 → Int32 → Int32 → AS → Option AR
  | 0, _, _, _, _, _ => none
  | n + 1, a0, x1, x2, x3, s0 =>
    cV s0 a0 11 (fX7_of a0 x1 1 s0) (qI (fun v1 s2 =>
    if v1 ≤ x3 then (
      some (.inl (some (.int x2)), s2))
    else (
      gR s2 a0 11 11 (fun q3 =>
      cV s2 a0 11 (fX7_of a0 x1 (11 + x3) s2) (qI (fun v4 s5 =>
      aI s5 q3 100 v4 (fun v6 =>
      lt (x2 + v6) (fun v7 =>
      lt (x3 + 1) (fun v8 =>
      fX7_filledLong_14 n a0 x1 v7 v8 s5)))))))))
def fX7_filledLong (a0 : Nat) (x1 : Int32) (s0 : AS) : Option AR :=
  cV s0 a0 11 (fX7_blocksLong a0 x1 s0) (qI (fun v1 s2 =>
  cV s2 a0 11 (fX7_quoinLong a0 x1 s2) (qI (fun v3 s4 =>
  lt (v1 + v3) (fun v5 =>
  fX7_filledLong_14 FU a0 x1 v5 0 s4)))))
set_option maxHeartbeats 4000000 in
theorem oX7_filledLong_14 {Γ : CX} (C : OKC Γ cX7_filledLong RX7 (some (.int))) (T : ∀ z ∈ (cx_c Γ).exceptionTable.toList, False) (hn : cx_nL Γ = 4) (hR : cx_fr Γ = 4 ∧ cx_lo Γ = 124) (hin : (cx_meth Γ).name = yX7_filledLong.name) : ∀ (n : Nat) (a0 : Nat) (x1 : Int32) (x2 : Int32) (x3 : Int32) (s0 : AS), OK Γ 14 [(0, .ref a0), (1, .int x1), (2, .int x2), (3, .int x3)] [] (fX7_filledLong_14 n a0 x1 x2 x3 s0) s0 := by
  intro n
  induction n with
  | zero => intro _ _ _ _ s0; exact OK.none
  | succ n ih =>
    intro a0 x1 x2 x3 s0
    rw [fX7_filledLong_14]
    refine ok_iload_n C 3 dX7_filledLong_14 rfl ?_
    refine ok_aload_n C 0 dX7_filledLong_15 rfl ?_
    refine ok_iload_n C 1 dX7_filledLong_16 rfl ?_
    refine ok_iconst C (v := 1) dX7_filledLong_17 (by decide) ?_
    refine ok_callV C T [.int x1, .int 1] (F := fX7_of a0 x1 1) (ctX7_of (C.2.2.2.2.2.2.2.2.1) a0 x1 1) vlX7_189 viX7_of rfl rfl (by decide) rfl (by rw [hR.1, hR.2]; decide) (Nat.le_of_ble_eq_true rfl) dX7_filledLong_18 (ok_qI fun v1 s2 => ?_)
    refine ok_icmp_ge C 47 dX7_filledLong_21 (by decide) ?_ ?_
    · refine ok_iload_n C 2 dX7_filledLong_47 rfl ?_
      exact ok_ireturn C dX7_filledLong_48
    · refine ok_iload_n C 2 dX7_filledLong_24 rfl ?_
      refine ok_aload_n C 0 dX7_filledLong_25 rfl ?_
      refine ok_getR C frX7_13_11 dX7_filledLong_26 (fun q3 => ?_)
      refine ok_aload_n C 0 dX7_filledLong_29 rfl ?_
      refine ok_iload_n C 1 dX7_filledLong_30 rfl ?_
      refine ok_bipush C (v := 11) dX7_filledLong_31 (by decide) ?_
      refine ok_iload_n C 3 dX7_filledLong_33 rfl ?_
      refine ok_iadd C dX7_filledLong_34 ?_
      refine ok_callV C T [.int x1, .int (11 + x3)] (F := fX7_of a0 x1 (11 + x3)) (ctX7_of (C.2.2.2.2.2.2.2.2.1) a0 x1 (11 + x3)) vlX7_189 viX7_of rfl rfl (by decide) rfl (by rw [hR.1, hR.2]; decide) (Nat.le_of_ble_eq_true rfl) dX7_filledLong_35 (ok_qI fun v4 s5 => ?_)
      refine ok_iald C dX7_filledLong_38 (fun v6 => ?_)
      refine ok_iadd C dX7_filledLong_39 ?_
      refine ok_lt (fun v7 => ?_)
      refine ok_istore_n C (i := 2) [(2, .int v7), (0, .ref a0), (1, .int x1), (3, .int x3)] dX7_filledLong_40 rfl (by rw [hn]; decide) rfl ?_
      refine ok_iincL C 3 (c := 1) (fun v8 => [(3, .int v8), (2, .int v7), (0, .ref a0), (1, .int x1)]) dX7_filledLong_41 rfl rfl (by rw [hn]; decide) (fun _ => rfl) (fun v8 => ?_)
      refine ok_goto C 14 dX7_filledLong_44 (by decide) ?_
      refine OK.sub (lv' := [(0, .ref a0), (1, .int x1), (2, .int v7), (3, .int v8)]) [2, 3, 1, 0] rfl ?_
      exact ih a0 x1 v7 v8 s5
set_option maxHeartbeats 4000000 in
theorem oX7_filledLong {Γ : CX} (C : OKC Γ cX7_filledLong RX7 (some (.int))) (T : ∀ z ∈ (cx_c Γ).exceptionTable.toList, False) (hn : cx_nL Γ = 4) (hR : cx_fr Γ = 4 ∧ cx_lo Γ = 124) (hin : (cx_meth Γ).name = yX7_filledLong.name) : ∀ (a0 : Nat) (x1 : Int32) (s0 : AS), OK Γ 0 [(0, .ref a0), (1, .int x1)] [] (fX7_filledLong a0 x1 s0) s0 := by
  intro a0 x1 s0
  unfold fX7_filledLong
  refine ok_aload_n C 0 dX7_filledLong_0 rfl ?_
  refine ok_iload_n C 1 dX7_filledLong_1 rfl ?_
  refine ok_callV C T [.int x1] (F := fX7_blocksLong a0 x1) (ctX7_blocksLong (C.2.2.2.2.2.2.2.2.1) a0 x1) vlX7_241 viX7_blocksLong rfl rfl (by decide) rfl (by rw [hR.1, hR.2]; decide) (Nat.le_of_ble_eq_true rfl) dX7_filledLong_2 (ok_qI fun v1 s2 => ?_)
  refine ok_aload_n C 0 dX7_filledLong_5 rfl ?_
  refine ok_iload_n C 1 dX7_filledLong_6 rfl ?_
  refine ok_callV C T [.int x1] (F := fX7_quoinLong a0 x1) (ctX7_quoinLong (C.2.2.2.2.2.2.2.2.1) a0 x1) vlX7_244 viX7_quoinLong rfl rfl (by decide) rfl (by rw [hR.1, hR.2]; decide) (Nat.le_of_ble_eq_true rfl) dX7_filledLong_7 (ok_qI fun v3 s4 => ?_)
  refine ok_iadd C dX7_filledLong_10 ?_
  refine ok_lt (fun v5 => ?_)
  refine ok_istore_n C (i := 2) [(2, .int v5), (0, .ref a0), (1, .int x1)] dX7_filledLong_11 rfl (by rw [hn]; decide) rfl ?_
  refine ok_iconst C (v := 0) dX7_filledLong_12 (by decide) ?_
  refine ok_istore_n C (i := 3) [(3, .int 0), (2, .int v5), (0, .ref a0), (1, .int x1)] dX7_filledLong_13 rfl (by rw [hn]; decide) rfl ?_
  refine OK.sub (lv' := [(0, .ref a0), (1, .int x1), (2, .int v5), (3, .int 0)]) [2, 3, 1, 0] rfl ?_
  exact oX7_filledLong_14 C T hn hR hin FU a0 x1 v5 0 s4
theorem ctX7_filledLong {l : Launch} (hl : l.stackTraces = false) {D : va_G} {dA : Nat → ClassId} {B0 : Nat} (a0 : Nat) (x1 : Int32) : Ct l D dA B0 yX7_filledLong (.code yX7_filledLong cX7_filledLong 4 (some (.int)) :: ax_ALL) 4 124 [.ref a0, .int x1] (fX7_filledLong a0 x1) :=
  Ct.of hl (by decide +kernel) (Nat.le_of_ble_eq_true rfl) fun Γ C _ _ _ _ e5 e6 e7 T hin => oX7_filledLong C T e5 ⟨e6, e7⟩ hin a0 x1 _
/-! ChaseLockerModel.gap(I)I -/
def fX7_gap (a0 : Nat) (x1 : Int32) (s0 : AS) : Option AR :=
  gI s0 a0 11 2 (fun v1 =>
  cV s0 a0 11 (fX7_filledLong a0 x1 s0) (qI (fun v2 s3 =>
  some (.inl (some (.int (v1 - v2))), s3))))
set_option maxHeartbeats 4000000 in
theorem oX7_gap {Γ : CX} (C : OKC Γ cX7_gap RX7 (some (.int))) (T : ∀ z ∈ (cx_c Γ).exceptionTable.toList, False) (hn : cx_nL Γ = 2) (hR : cx_fr Γ = 5 ∧ cx_lo Γ = 147) (hin : (cx_meth Γ).name = yX7_gap.name) : ∀ (a0 : Nat) (x1 : Int32) (s0 : AS), OK Γ 0 [(0, .ref a0), (1, .int x1)] [] (fX7_gap a0 x1 s0) s0 := by
  intro a0 x1 s0
  unfold fX7_gap
  refine ok_aload_n C 0 dX7_gap_0 rfl ?_
  refine ok_getI C frX7_151_11 dX7_gap_1 (fun v1 => ?_)
  refine ok_aload_n C 0 dX7_gap_4 rfl ?_
  refine ok_iload_n C 1 dX7_gap_5 rfl ?_
  refine ok_callV C T [.int x1] (F := fX7_filledLong a0 x1) (ctX7_filledLong (C.2.2.2.2.2.2.2.2.1) a0 x1) vlX7_247 viX7_filledLong rfl rfl (by decide) rfl (by rw [hR.1, hR.2]; decide) (Nat.le_of_ble_eq_true rfl) dX7_gap_6 (ok_qI fun v2 s3 => ?_)
  refine ok_isub C dX7_gap_9 ?_
  exact ok_ireturn C dX7_gap_10
theorem ctX7_gap {l : Launch} (hl : l.stackTraces = false) {D : va_G} {dA : Nat → ClassId} {B0 : Nat} (a0 : Nat) (x1 : Int32) : Ct l D dA B0 yX7_gap (.code yX7_gap cX7_gap 2 (some (.int)) :: ax_ALL) 5 147 [.ref a0, .int x1] (fX7_gap a0 x1) :=
  Ct.of hl (by decide +kernel) (Nat.le_of_ble_eq_true rfl) fun Γ C _ _ _ _ e5 e6 e7 T hin => oX7_gap C T e5 ⟨e6, e7⟩ hin a0 x1 _
/-! ChaseLockerModel.rowLine()V -/
def fX7_rowLine_152 (r61 : Nat → Int32 → AS → Option AR) (a0 : Nat) (x1 : Int32) (s0 : AS) : Option AR :=
  cV s0 a0 11 (fX7_goesOn a0 s0) (qV (fun s1 =>
  r61 a0 x1 s1))
def fX7_rowLine_135 (r61 : Nat → Int32 → AS → Option AR) (a0 : Nat) (x1 : Int32) (x2 : Int32) (t0 : Nat) (t1 : Int32) (s0 : AS) : Option AR :=
  cV s0 t0 11 (fX7_failsIf t0 t1 5 s0) (qV (fun s1 =>
  gI s1 a0 11 26 (fun v2 =>
  if v2 = 0 then (
    cV s1 a0 11 (fX7_adds a0 x1 x2 s1) (qV (fun s3 =>
    fX7_rowLine_152 r61 a0 x1 s3)))
  else (
    fX7_rowLine_152 r61 a0 x1 s1))))
def fX7_rowLine_134 (r61 : Nat → Int32 → AS → Option AR) (a0 : Nat) (x1 : Int32) (x2 : Int32) (t0 : Nat) (s0 : AS) : Option AR :=
  fX7_rowLine_135 r61 a0 x1 x2 t0 0 s0
def fX7_rowLine_109 (r61 : Nat → Int32 → AS → Option AR) (a0 : Nat) (x1 : Int32) (x2 : Int32) (t0 : Nat) (t1 : Int32) (s0 : AS) : Option AR :=
  cV s0 t0 11 (fX7_failsIf t0 t1 4 s0) (qV (fun s1 =>
  gI s1 a0 11 26 (fun v2 =>
  if v2 = 0 then (
    cV s1 a0 11 (fX7_gap a0 x1 s1) (qI (fun v3 s4 =>
    if x2 ≤ v3 then (
      fX7_rowLine_134 r61 a0 x1 x2 a0 s4)
    else (
      fX7_rowLine_135 r61 a0 x1 x2 a0 1 s4))))
  else (
    fX7_rowLine_134 r61 a0 x1 x2 a0 s1))))
def fX7_rowLine_108 (r61 : Nat → Int32 → AS → Option AR) (a0 : Nat) (x1 : Int32) (x2 : Int32) (t0 : Nat) (s0 : AS) : Option AR :=
  fX7_rowLine_109 r61 a0 x1 x2 t0 0 s0
def fX7_rowLine_61  : Nat → Nat → Int32 → AS → Option AR
  | 0, _, _, _ => none
  | n + 1, a0, x1, s0 =>
    gI s0 a0 11 26 (fun v1 =>
    if v1 = 0 then (
      gI s0 a0 11 24 (fun v2 =>
      if v2 = (2 : Int32) then (
        cV s0 a0 11 (fX7_looks a0 1 200 s0) (qI (fun v3 s4 =>
        gI s4 a0 11 26 (fun v5 =>
        if v5 = 0 then (
          cV s4 a0 11 (fX7_of a0 x1 0 s4) (qI (fun v6 s7 =>
          if v6 = (6 : Int32) then (
            fX7_rowLine_109 (fX7_rowLine_61 n) a0 x1 v3 a0 1 s7)
          else (
            fX7_rowLine_108 (fX7_rowLine_61 n) a0 x1 v3 a0 s7))))
        else (
          fX7_rowLine_108 (fX7_rowLine_61 n) a0 x1 v3 a0 s4)))))
      else (
        some (.inl none, s0))))
    else (
      some (.inl none, s0)))
def fX7_rowLine_41  (a0 : Nat) (x1 : Int32) (t0 : Nat) (t1 : Int32) (s0 : AS) : Option AR :=
  cV s0 t0 11 (fX7_failsIf t0 t1 3 s0) (qV (fun s1 =>
  gI s1 a0 11 32 (fun v2 =>
  sI s1 a0 11 32 (v2 ||| (1 <<< (x1 &&& 31))) (fun s3 =>
  cV s3 a0 11 (fX7_goesOn a0 s3) (qV (fun s4 =>
  fX7_rowLine_61 FU a0 x1 s4))))))
def fX7_rowLine_40  (a0 : Nat) (x1 : Int32) (t0 : Nat) (s0 : AS) : Option AR :=
  fX7_rowLine_41 a0 x1 t0 0 s0
def fX7_rowLine (a0 : Nat) (s0 : AS) : Option AR :=
  cV s0 a0 11 (fX7_goesOn a0 s0) (qV (fun s1 =>
  gI s1 a0 11 3 (fun v2 =>
  cV s1 a0 11 (fX7_looks a0 0 (v2 - 1) s1) (qI (fun v3 s4 =>
  gI s4 a0 11 26 (fun v5 =>
  if v5 = 0 then (
    gI s4 a0 11 32 (fun v6 =>
    if ((v6 >>> (v3 &&& 31)) &&& 1) = (1 : Int32) then (
      fX7_rowLine_41 a0 v3 a0 1 s4)
    else (
      fX7_rowLine_40 a0 v3 a0 s4)))
  else (
    fX7_rowLine_40 a0 v3 a0 s4)))))))
set_option maxHeartbeats 4000000 in
theorem oX7_rowLine_152 {Γ : CX} (C : OKC Γ cX7_rowLine RX7 none) (T : ∀ z ∈ (cx_c Γ).exceptionTable.toList, False) (hn : cx_nL Γ = 3) (hR : cx_fr Γ = 6 ∧ cx_lo Γ = 168) (hin : (cx_meth Γ).name = yX7_rowLine.name) {r61 : Nat → Int32 → AS → Option AR} (h61 : ∀ (a0 : Nat) (x1 : Int32) (s0 : AS), OK Γ 61 [(0, .ref a0), (1, .int x1)] [] (r61 a0 x1 s0) s0) : ∀ (a0 : Nat) (x1 : Int32) (s0 : AS), OK Γ 152 [(0, .ref a0), (1, .int x1)] [] (fX7_rowLine_152 r61 a0 x1 s0) s0 := by
  intro a0 x1 s0
  unfold fX7_rowLine_152
  refine ok_aload_n C 0 dX7_rowLine_152 rfl ?_
  refine ok_callV C T [] (F := fX7_goesOn a0) (ctX7_goesOn (C.2.2.2.2.2.2.2.2.1) a0) vlX7_140 viX7_goesOn rfl rfl (by decide) rfl (by rw [hR.1, hR.2]; decide) (Nat.le_of_ble_eq_true rfl) dX7_rowLine_153 (ok_qV fun s1 => ?_)
  refine ok_goto C 61 dX7_rowLine_156 (by decide) ?_
  exact h61 a0 x1 s1
set_option maxHeartbeats 4000000 in
theorem oX7_rowLine_135 {Γ : CX} (C : OKC Γ cX7_rowLine RX7 none) (T : ∀ z ∈ (cx_c Γ).exceptionTable.toList, False) (hn : cx_nL Γ = 3) (hR : cx_fr Γ = 6 ∧ cx_lo Γ = 168) (hin : (cx_meth Γ).name = yX7_rowLine.name) {r61 : Nat → Int32 → AS → Option AR} (h61 : ∀ (a0 : Nat) (x1 : Int32) (s0 : AS), OK Γ 61 [(0, .ref a0), (1, .int x1)] [] (r61 a0 x1 s0) s0) : ∀ (a0 : Nat) (x1 : Int32) (x2 : Int32) (t0 : Nat) (t1 : Int32) (s0 : AS), OK Γ 135 [(0, .ref a0), (1, .int x1), (2, .int x2)] [.int t1, .ref t0] (fX7_rowLine_135 r61 a0 x1 x2 t0 t1 s0) s0 := by
  intro a0 x1 x2 t0 t1 s0
  unfold fX7_rowLine_135
  refine ok_iconst C (v := 5) dX7_rowLine_135 (by decide) ?_
  refine ok_callV C T [.int t1, .int 5] (F := fX7_failsIf t0 t1 5) (ctX7_failsIf (C.2.2.2.2.2.2.2.2.1) t0 t1 5) vlX7_136 viX7_failsIf rfl rfl (by decide) rfl (by rw [hR.1, hR.2]; decide) (Nat.le_of_ble_eq_true rfl) dX7_rowLine_136 (ok_qV fun s1 => ?_)
  refine ok_aload_n C 0 dX7_rowLine_139 rfl ?_
  refine ok_getI C frX7_110_11 dX7_rowLine_140 (fun v2 => ?_)
  refine ok_if_ne C 152 dX7_rowLine_143 (by decide) ?_ ?_
  · refine OK.sub (lv' := [(0, .ref a0), (1, .int x1)]) [0, 1] rfl ?_
    exact oX7_rowLine_152 C T hn hR hin h61 a0 x1 s1
  · refine ok_aload_n C 0 dX7_rowLine_146 rfl ?_
    refine ok_iload_n C 1 dX7_rowLine_147 rfl ?_
    refine ok_iload_n C 2 dX7_rowLine_148 rfl ?_
    refine ok_callV C T [.int x1, .int x2] (F := fX7_adds a0 x1 x2) (ctX7_adds (C.2.2.2.2.2.2.2.2.1) a0 x1 x2) vlX7_195 viX7_adds rfl rfl (by decide) rfl (by rw [hR.1, hR.2]; decide) (Nat.le_of_ble_eq_true rfl) dX7_rowLine_149 (ok_qV fun s3 => ?_)
    refine OK.sub (lv' := [(0, .ref a0), (1, .int x1)]) [0, 1] rfl ?_
    exact oX7_rowLine_152 C T hn hR hin h61 a0 x1 s3
set_option maxHeartbeats 4000000 in
theorem oX7_rowLine_134 {Γ : CX} (C : OKC Γ cX7_rowLine RX7 none) (T : ∀ z ∈ (cx_c Γ).exceptionTable.toList, False) (hn : cx_nL Γ = 3) (hR : cx_fr Γ = 6 ∧ cx_lo Γ = 168) (hin : (cx_meth Γ).name = yX7_rowLine.name) {r61 : Nat → Int32 → AS → Option AR} (h61 : ∀ (a0 : Nat) (x1 : Int32) (s0 : AS), OK Γ 61 [(0, .ref a0), (1, .int x1)] [] (r61 a0 x1 s0) s0) : ∀ (a0 : Nat) (x1 : Int32) (x2 : Int32) (t0 : Nat) (s0 : AS), OK Γ 134 [(0, .ref a0), (1, .int x1), (2, .int x2)] [.ref t0] (fX7_rowLine_134 r61 a0 x1 x2 t0 s0) s0 := by
  intro a0 x1 x2 t0 s0
  unfold fX7_rowLine_134
  refine ok_iconst C (v := 0) dX7_rowLine_134 (by decide) ?_
  exact oX7_rowLine_135 C T hn hR hin h61 a0 x1 x2 t0 0 s0
set_option maxHeartbeats 4000000 in
theorem oX7_rowLine_109 {Γ : CX} (C : OKC Γ cX7_rowLine RX7 none) (T : ∀ z ∈ (cx_c Γ).exceptionTable.toList, False) (hn : cx_nL Γ = 3) (hR : cx_fr Γ = 6 ∧ cx_lo Γ = 168) (hin : (cx_meth Γ).name = yX7_rowLine.name) {r61 : Nat → Int32 → AS → Option AR} (h61 : ∀ (a0 : Nat) (x1 : Int32) (s0 : AS), OK Γ 61 [(0, .ref a0), (1, .int x1)] [] (r61 a0 x1 s0) s0) : ∀ (a0 : Nat) (x1 : Int32) (x2 : Int32) (t0 : Nat) (t1 : Int32) (s0 : AS), OK Γ 109 [(0, .ref a0), (1, .int x1), (2, .int x2)] [.int t1, .ref t0] (fX7_rowLine_109 r61 a0 x1 x2 t0 t1 s0) s0 := by
  intro a0 x1 x2 t0 t1 s0
  unfold fX7_rowLine_109
  refine ok_iconst C (v := 4) dX7_rowLine_109 (by decide) ?_
  refine ok_callV C T [.int t1, .int 4] (F := fX7_failsIf t0 t1 4) (ctX7_failsIf (C.2.2.2.2.2.2.2.2.1) t0 t1 4) vlX7_136 viX7_failsIf rfl rfl (by decide) rfl (by rw [hR.1, hR.2]; decide) (Nat.le_of_ble_eq_true rfl) dX7_rowLine_110 (ok_qV fun s1 => ?_)
  refine ok_aload_n C 0 dX7_rowLine_113 rfl ?_
  refine ok_aload_n C 0 dX7_rowLine_114 rfl ?_
  refine ok_getI C frX7_110_11 dX7_rowLine_115 (fun v2 => ?_)
  refine ok_if_ne C 134 dX7_rowLine_118 (by decide) ?_ ?_
  · exact oX7_rowLine_134 C T hn hR hin h61 a0 x1 x2 a0 s1
  · refine ok_aload_n C 0 dX7_rowLine_121 rfl ?_
    refine ok_iload_n C 1 dX7_rowLine_122 rfl ?_
    refine ok_callV C T [.int x1] (F := fX7_gap a0 x1) (ctX7_gap (C.2.2.2.2.2.2.2.2.1) a0 x1) vlX7_192 viX7_gap rfl rfl (by decide) rfl (by rw [hR.1, hR.2]; decide) (Nat.le_of_ble_eq_true rfl) dX7_rowLine_123 (ok_qI fun v3 s4 => ?_)
    refine ok_iload_n C 2 dX7_rowLine_126 rfl ?_
    refine ok_icmp_ge C 134 dX7_rowLine_127 (by decide) ?_ ?_
    · exact oX7_rowLine_134 C T hn hR hin h61 a0 x1 x2 a0 s4
    · refine ok_iconst C (v := 1) dX7_rowLine_130 (by decide) ?_
      refine ok_goto C 135 dX7_rowLine_131 (by decide) ?_
      exact oX7_rowLine_135 C T hn hR hin h61 a0 x1 x2 a0 1 s4
set_option maxHeartbeats 4000000 in
theorem oX7_rowLine_108 {Γ : CX} (C : OKC Γ cX7_rowLine RX7 none) (T : ∀ z ∈ (cx_c Γ).exceptionTable.toList, False) (hn : cx_nL Γ = 3) (hR : cx_fr Γ = 6 ∧ cx_lo Γ = 168) (hin : (cx_meth Γ).name = yX7_rowLine.name) {r61 : Nat → Int32 → AS → Option AR} (h61 : ∀ (a0 : Nat) (x1 : Int32) (s0 : AS), OK Γ 61 [(0, .ref a0), (1, .int x1)] [] (r61 a0 x1 s0) s0) : ∀ (a0 : Nat) (x1 : Int32) (x2 : Int32) (t0 : Nat) (s0 : AS), OK Γ 108 [(0, .ref a0), (1, .int x1), (2, .int x2)] [.ref t0] (fX7_rowLine_108 r61 a0 x1 x2 t0 s0) s0 := by
  intro a0 x1 x2 t0 s0
  unfold fX7_rowLine_108
  refine ok_iconst C (v := 0) dX7_rowLine_108 (by decide) ?_
  exact oX7_rowLine_109 C T hn hR hin h61 a0 x1 x2 t0 0 s0
set_option maxHeartbeats 4000000 in
theorem oX7_rowLine_61 {Γ : CX} (C : OKC Γ cX7_rowLine RX7 none) (T : ∀ z ∈ (cx_c Γ).exceptionTable.toList, False) (hn : cx_nL Γ = 3) (hR : cx_fr Γ = 6 ∧ cx_lo Γ = 168) (hin : (cx_meth Γ).name = yX7_rowLine.name) : ∀ (n : Nat) (a0 : Nat) (x1 : Int32) (s0 : AS), OK Γ 61 [(0, .ref a0), (1, .int x1)] [] (fX7_rowLine_61 n a0 x1 s0) s0 := by
  intro n
  induction n with
  | zero => intro _ _ s0; exact OK.none
  | succ n ih =>
    intro a0 x1 s0
    rw [fX7_rowLine_61]
    refine ok_aload_n C 0 dX7_rowLine_61 rfl ?_
    refine ok_getI C frX7_110_11 dX7_rowLine_62 (fun v1 => ?_)
    refine ok_if_ne C 159 dX7_rowLine_65 (by decide) ?_ ?_
    · exact ok_vreturn C dX7_rowLine_159
    · refine ok_aload_n C 0 dX7_rowLine_68 rfl ?_
      refine ok_getI C frX7_97_11 dX7_rowLine_69 (fun v2 => ?_)
      refine ok_iconst C (v := 2) dX7_rowLine_72 (by decide) ?_
      refine ok_icmp_ne C 159 dX7_rowLine_73 (by decide) ?_ ?_
      · exact ok_vreturn C dX7_rowLine_159
      · refine ok_aload_n C 0 dX7_rowLine_76 rfl ?_
        refine ok_iconst C (v := 1) dX7_rowLine_77 (by decide) ?_
        refine ok_sipush C (v := 200) dX7_rowLine_78 (by decide) ?_
        refine ok_callV C T [.int 1, .int 200] (F := fX7_looks a0 1 200) (ctX7_looks (C.2.2.2.2.2.2.2.2.1) a0 1 200) vlX7_147 viX7_looks rfl rfl (by decide) rfl (by rw [hR.1, hR.2]; decide) (Nat.le_of_ble_eq_true rfl) dX7_rowLine_81 (ok_qI fun v3 s4 => ?_)
        refine ok_istore_n C (i := 2) [(2, .int v3), (0, .ref a0), (1, .int x1)] dX7_rowLine_84 rfl (by rw [hn]; decide) rfl ?_
        refine ok_aload_n C 1 dX7_rowLine_85 rfl ?_
        refine ok_aload_n C 1 dX7_rowLine_86 rfl ?_
        refine ok_getI C frX7_110_11 dX7_rowLine_87 (fun v5 => ?_)
        refine ok_if_ne C 108 dX7_rowLine_90 (by decide) ?_ ?_
        · refine OK.sub (lv' := [(0, .ref a0), (1, .int x1), (2, .int v3)]) [1, 2, 0] rfl ?_
          exact oX7_rowLine_108 C T hn hR hin ih a0 x1 v3 a0 s4
        · refine ok_aload_n C 1 dX7_rowLine_93 rfl ?_
          refine ok_iload_n C 2 dX7_rowLine_94 rfl ?_
          refine ok_iconst C (v := 0) dX7_rowLine_95 (by decide) ?_
          refine ok_callV C T [.int x1, .int 0] (F := fX7_of a0 x1 0) (ctX7_of (C.2.2.2.2.2.2.2.2.1) a0 x1 0) vlX7_189 viX7_of rfl rfl (by decide) rfl (by rw [hR.1, hR.2]; decide) (Nat.le_of_ble_eq_true rfl) dX7_rowLine_96 (ok_qI fun v6 s7 => ?_)
          refine ok_bipush C (v := 6) dX7_rowLine_99 (by decide) ?_
          refine ok_icmp_ne C 108 dX7_rowLine_101 (by decide) ?_ ?_
          · refine OK.sub (lv' := [(0, .ref a0), (1, .int x1), (2, .int v3)]) [1, 2, 0] rfl ?_
            exact oX7_rowLine_108 C T hn hR hin ih a0 x1 v3 a0 s7
          · refine ok_iconst C (v := 1) dX7_rowLine_104 (by decide) ?_
            refine ok_goto C 109 dX7_rowLine_105 (by decide) ?_
            refine OK.sub (lv' := [(0, .ref a0), (1, .int x1), (2, .int v3)]) [1, 2, 0] rfl ?_
            exact oX7_rowLine_109 C T hn hR hin ih a0 x1 v3 a0 1 s7
set_option maxHeartbeats 4000000 in
theorem oX7_rowLine_41 {Γ : CX} (C : OKC Γ cX7_rowLine RX7 none) (T : ∀ z ∈ (cx_c Γ).exceptionTable.toList, False) (hn : cx_nL Γ = 3) (hR : cx_fr Γ = 6 ∧ cx_lo Γ = 168) (hin : (cx_meth Γ).name = yX7_rowLine.name) : ∀ (a0 : Nat) (x1 : Int32) (t0 : Nat) (t1 : Int32) (s0 : AS), OK Γ 41 [(0, .ref a0), (1, .int x1)] [.int t1, .ref t0] (fX7_rowLine_41  a0 x1 t0 t1 s0) s0 := by
  intro a0 x1 t0 t1 s0
  unfold fX7_rowLine_41
  refine ok_iconst C (v := 3) dX7_rowLine_41 (by decide) ?_
  refine ok_callV C T [.int t1, .int 3] (F := fX7_failsIf t0 t1 3) (ctX7_failsIf (C.2.2.2.2.2.2.2.2.1) t0 t1 3) vlX7_136 viX7_failsIf rfl rfl (by decide) rfl (by rw [hR.1, hR.2]; decide) (Nat.le_of_ble_eq_true rfl) dX7_rowLine_42 (ok_qV fun s1 => ?_)
  refine ok_aload_n C 0 dX7_rowLine_45 rfl ?_
  refine ok_dup C dX7_rowLine_46 rfl ?_
  refine ok_getI C frX7_175_11 dX7_rowLine_47 (fun v2 => ?_)
  refine ok_iconst C (v := 1) dX7_rowLine_50 (by decide) ?_
  refine ok_iload_n C 1 dX7_rowLine_51 rfl ?_
  refine ok_ishl C dX7_rowLine_52 ?_
  refine ok_ior C dX7_rowLine_53 ?_
  refine ok_putI C flX7_175_11 dX7_rowLine_54 (fun s3 _ => ?_)
  refine ok_aload_n C 0 dX7_rowLine_57 rfl ?_
  refine ok_callV C T [] (F := fX7_goesOn a0) (ctX7_goesOn (C.2.2.2.2.2.2.2.2.1) a0) vlX7_140 viX7_goesOn rfl rfl (by decide) rfl (by rw [hR.1, hR.2]; decide) (Nat.le_of_ble_eq_true rfl) dX7_rowLine_58 (ok_qV fun s4 => ?_)
  exact oX7_rowLine_61 C T hn hR hin FU a0 x1 s4
set_option maxHeartbeats 4000000 in
theorem oX7_rowLine_40 {Γ : CX} (C : OKC Γ cX7_rowLine RX7 none) (T : ∀ z ∈ (cx_c Γ).exceptionTable.toList, False) (hn : cx_nL Γ = 3) (hR : cx_fr Γ = 6 ∧ cx_lo Γ = 168) (hin : (cx_meth Γ).name = yX7_rowLine.name) : ∀ (a0 : Nat) (x1 : Int32) (t0 : Nat) (s0 : AS), OK Γ 40 [(0, .ref a0), (1, .int x1)] [.ref t0] (fX7_rowLine_40  a0 x1 t0 s0) s0 := by
  intro a0 x1 t0 s0
  unfold fX7_rowLine_40
  refine ok_iconst C (v := 0) dX7_rowLine_40 (by decide) ?_
  exact oX7_rowLine_41 C T hn hR hin a0 x1 t0 0 s0
set_option maxHeartbeats 4000000 in
theorem oX7_rowLine {Γ : CX} (C : OKC Γ cX7_rowLine RX7 none) (T : ∀ z ∈ (cx_c Γ).exceptionTable.toList, False) (hn : cx_nL Γ = 3) (hR : cx_fr Γ = 6 ∧ cx_lo Γ = 168) (hin : (cx_meth Γ).name = yX7_rowLine.name) : ∀ (a0 : Nat) (s0 : AS), OK Γ 0 [(0, .ref a0)] [] (fX7_rowLine a0 s0) s0 := by
  intro a0 s0
  unfold fX7_rowLine
  refine ok_aload_n C 0 dX7_rowLine_0 rfl ?_
  refine ok_callV C T [] (F := fX7_goesOn a0) (ctX7_goesOn (C.2.2.2.2.2.2.2.2.1) a0) vlX7_140 viX7_goesOn rfl rfl (by decide) rfl (by rw [hR.1, hR.2]; decide) (Nat.le_of_ble_eq_true rfl) dX7_rowLine_1 (ok_qV fun s1 => ?_)
  refine ok_aload_n C 0 dX7_rowLine_4 rfl ?_
  refine ok_iconst C (v := 0) dX7_rowLine_5 (by decide) ?_
  refine ok_aload_n C 0 dX7_rowLine_6 rfl ?_
  refine ok_getI C frX7_154_11 dX7_rowLine_7 (fun v2 => ?_)
  refine ok_iconst C (v := 1) dX7_rowLine_10 (by decide) ?_
  refine ok_isub C dX7_rowLine_11 ?_
  refine ok_callV C T [.int 0, .int (v2 - 1)] (F := fX7_looks a0 0 (v2 - 1)) (ctX7_looks (C.2.2.2.2.2.2.2.2.1) a0 0 (v2 - 1)) vlX7_147 viX7_looks rfl rfl (by decide) rfl (by rw [hR.1, hR.2]; decide) (Nat.le_of_ble_eq_true rfl) dX7_rowLine_12 (ok_qI fun v3 s4 => ?_)
  refine ok_istore_n C (i := 1) [(1, .int v3), (0, .ref a0)] dX7_rowLine_15 rfl (by rw [hn]; decide) rfl ?_
  refine ok_aload_n C 1 dX7_rowLine_16 rfl ?_
  refine ok_aload_n C 1 dX7_rowLine_17 rfl ?_
  refine ok_getI C frX7_110_11 dX7_rowLine_18 (fun v5 => ?_)
  refine ok_if_ne C 40 dX7_rowLine_21 (by decide) ?_ ?_
  · refine OK.sub (lv' := [(0, .ref a0), (1, .int v3)]) [1, 0] rfl ?_
    exact oX7_rowLine_40 C T hn hR hin a0 v3 a0 s4
  · refine ok_aload_n C 1 dX7_rowLine_24 rfl ?_
    refine ok_getI C frX7_175_11 dX7_rowLine_25 (fun v6 => ?_)
    refine ok_iload_n C 0 dX7_rowLine_28 rfl ?_
    refine ok_ishr C dX7_rowLine_29 ?_
    refine ok_iconst C (v := 1) dX7_rowLine_30 (by decide) ?_
    refine ok_iand C dX7_rowLine_31 ?_
    refine ok_iconst C (v := 1) dX7_rowLine_32 (by decide) ?_
    refine ok_icmp_ne C 40 dX7_rowLine_33 (by decide) ?_ ?_
    · refine OK.sub (lv' := [(0, .ref a0), (1, .int v3)]) [1, 0] rfl ?_
      exact oX7_rowLine_40 C T hn hR hin a0 v3 a0 s4
    · refine ok_iconst C (v := 1) dX7_rowLine_36 (by decide) ?_
      refine ok_goto C 41 dX7_rowLine_37 (by decide) ?_
      refine OK.sub (lv' := [(0, .ref a0), (1, .int v3)]) [1, 0] rfl ?_
      exact oX7_rowLine_41 C T hn hR hin a0 v3 a0 1 s4
theorem ctX7_rowLine {l : Launch} (hl : l.stackTraces = false) {D : va_G} {dA : Nat → ClassId} {B0 : Nat} (a0 : Nat) : Ct l D dA B0 yX7_rowLine (.code yX7_rowLine cX7_rowLine 3 (none) :: ax_ALL) 6 168 [.ref a0] (fX7_rowLine a0) :=
  Ct.of hl (by decide +kernel) (Nat.le_of_ble_eq_true rfl) fun Γ C _ _ _ _ e5 e6 e7 T hin => oX7_rowLine C T e5 ⟨e6, e7⟩ hin a0 _
/-! ChaseLockerModel.line()V -/
def fX7_line_18  (a0 : Nat) (s0 : AS) : Option AR :=
  cV s0 a0 11 (fX7_isWord a0 1000032 s0) (qI (fun v1 s2 =>
  cV s2 a0 11 (fX7_kindLine a0 v1 s2) (qV (fun s3 =>
  some (.inl none, s3)))))
def fX7_line (a0 : Nat) (s0 : AS) : Option AR :=
  cV s0 a0 11 (fX7_isWord a0 1000031 s0) (qI (fun v1 s2 =>
  if v1 = 0 then (
    cV s2 a0 11 (fX7_isWord a0 1000032 s2) (qI (fun v3 s4 =>
    if v3 = 0 then (
      cV s4 a0 11 (fX7_isWord a0 1000033 s4) (qI (fun v5 s6 =>
      if v5 = 0 then (
        cV s6 a0 11 (fX7_fails a0 1 s6) (qV (fun s7 =>
        some (.inl none, s7))))
      else (
        cV s6 a0 11 (fX7_rowLine a0 s6) (qV (fun s8 =>
        some (.inl none, s8)))))))
    else (
      fX7_line_18 a0 s4))))
  else (
    fX7_line_18 a0 s2)))
set_option maxHeartbeats 4000000 in
theorem oX7_line_18 {Γ : CX} (C : OKC Γ cX7_line RX7 none) (T : ∀ z ∈ (cx_c Γ).exceptionTable.toList, False) (hn : cx_nL Γ = 1) (hR : cx_fr Γ = 7 ∧ cx_lo Γ = 190) (hin : (cx_meth Γ).name = yX7_line.name) : ∀ (a0 : Nat) (s0 : AS), OK Γ 18 [(0, .ref a0)] [] (fX7_line_18  a0 s0) s0 := by
  intro a0 s0
  unfold fX7_line_18
  refine ok_aload_n C 0 dX7_line_18 rfl ?_
  refine ok_aload_n C 0 dX7_line_19 rfl ?_
  refine ok_ldcS C 32 rfl dX7_line_20 ?_
  refine ok_callV C T [.ref 1000032] (F := fX7_isWord a0 1000032) (ctX7_isWord (C.2.2.2.2.2.2.2.2.1) a0 1000032) vlX7_132 viX7_isWord rfl rfl (by decide) rfl (by rw [hR.1, hR.2]; decide) (Nat.le_of_ble_eq_true rfl) dX7_line_22 (ok_qI fun v1 s2 => ?_)
  refine ok_callV C T [.int v1] (F := fX7_kindLine a0 v1) (ctX7_kindLine (C.2.2.2.2.2.2.2.2.1) a0 v1) vlX7_203 viX7_kindLine rfl rfl (by decide) rfl (by rw [hR.1, hR.2]; decide) (Nat.le_of_ble_eq_true rfl) dX7_line_25 (ok_qV fun s3 => ?_)
  refine ok_goto C 52 dX7_line_28 (by decide) ?_
  exact ok_vreturn C dX7_line_52
set_option maxHeartbeats 4000000 in
theorem oX7_line {Γ : CX} (C : OKC Γ cX7_line RX7 none) (T : ∀ z ∈ (cx_c Γ).exceptionTable.toList, False) (hn : cx_nL Γ = 1) (hR : cx_fr Γ = 7 ∧ cx_lo Γ = 190) (hin : (cx_meth Γ).name = yX7_line.name) : ∀ (a0 : Nat) (s0 : AS), OK Γ 0 [(0, .ref a0)] [] (fX7_line a0 s0) s0 := by
  intro a0 s0
  unfold fX7_line
  refine ok_aload_n C 0 dX7_line_0 rfl ?_
  refine ok_ldcS C 31 rfl dX7_line_1 ?_
  refine ok_callV C T [.ref 1000031] (F := fX7_isWord a0 1000031) (ctX7_isWord (C.2.2.2.2.2.2.2.2.1) a0 1000031) vlX7_132 viX7_isWord rfl rfl (by decide) rfl (by rw [hR.1, hR.2]; decide) (Nat.le_of_ble_eq_true rfl) dX7_line_3 (ok_qI fun v1 s2 => ?_)
  refine ok_if_ne C 18 dX7_line_6 (by decide) ?_ ?_
  · exact oX7_line_18 C T hn hR hin a0 s2
  · refine ok_aload_n C 0 dX7_line_9 rfl ?_
    refine ok_ldcS C 32 rfl dX7_line_10 ?_
    refine ok_callV C T [.ref 1000032] (F := fX7_isWord a0 1000032) (ctX7_isWord (C.2.2.2.2.2.2.2.2.1) a0 1000032) vlX7_132 viX7_isWord rfl rfl (by decide) rfl (by rw [hR.1, hR.2]; decide) (Nat.le_of_ble_eq_true rfl) dX7_line_12 (ok_qI fun v3 s4 => ?_)
    refine ok_if_eq C 31 dX7_line_15 (by decide) ?_ ?_
    · refine ok_aload_n C 0 dX7_line_31 rfl ?_
      refine ok_ldcS C 33 rfl dX7_line_32 ?_
      refine ok_callV C T [.ref 1000033] (F := fX7_isWord a0 1000033) (ctX7_isWord (C.2.2.2.2.2.2.2.2.1) a0 1000033) vlX7_132 viX7_isWord rfl rfl (by decide) rfl (by rw [hR.1, hR.2]; decide) (Nat.le_of_ble_eq_true rfl) dX7_line_34 (ok_qI fun v5 s6 => ?_)
      refine ok_if_eq C 47 dX7_line_37 (by decide) ?_ ?_
      · refine ok_aload_n C 0 dX7_line_47 rfl ?_
        refine ok_iconst C (v := 1) dX7_line_48 (by decide) ?_
        refine ok_callV C T [.int 1] (F := fX7_fails a0 1) (ctX7_fails (C.2.2.2.2.2.2.2.2.1) a0 1) vlX7_116 viX7_fails rfl rfl (by decide) rfl (by rw [hR.1, hR.2]; decide) (Nat.le_of_ble_eq_true rfl) dX7_line_49 (ok_qV fun s7 => ?_)
        exact ok_vreturn C dX7_line_52
      · refine ok_aload_n C 0 dX7_line_40 rfl ?_
        refine ok_callV C T [] (F := fX7_rowLine a0) (ctX7_rowLine (C.2.2.2.2.2.2.2.2.1) a0) vlX7_209 viX7_rowLine rfl rfl (by decide) rfl (by rw [hR.1, hR.2]; decide) (Nat.le_of_ble_eq_true rfl) dX7_line_41 (ok_qV fun s8 => ?_)
        refine ok_goto C 52 dX7_line_44 (by decide) ?_
        exact ok_vreturn C dX7_line_52
    · exact oX7_line_18 C T hn hR hin a0 s4
theorem ctX7_line {l : Launch} (hl : l.stackTraces = false) {D : va_G} {dA : Nat → ClassId} {B0 : Nat} (a0 : Nat) : Ct l D dA B0 yX7_line (.code yX7_line cX7_line 1 (none) :: ax_ALL) 7 190 [.ref a0] (fX7_line a0) :=
  Ct.of hl (by decide +kernel) (Nat.le_of_ble_eq_true rfl) fun Γ C _ _ _ _ e5 e6 e7 T hin => oX7_line C T e5 ⟨e6, e7⟩ hin a0 _
/-! ChaseLockerModel.reads(I)V -/
def fX7_reads_201  (t0 : Nat) (t1 : Int32) (s0 : AS) : Option AR :=
  cV s0 t0 11 (fX7_failsIf t0 t1 1 s0) (qV (fun s1 =>
  some (.inl none, s1)))
def fX7_reads_188  (a0 : Nat) (s0 : AS) : Option AR :=
  gI s0 a0 11 24 (fun v1 =>
  if v1 = 0 then (
    fX7_reads_201 a0 0 s0)
  else (
    fX7_reads_201 a0 1 s0))
def fX7_reads_162  : Nat → Nat → AS → Option AR
  | 0, _, _ => none
  | n + 1, a0, s0 =>
    gI s0 a0 11 26 (fun v1 =>
    if v1 = 0 then (
      gI s0 a0 11 24 (fun v2 =>
      if v2 = (3 : Int32) then (
        cV s0 a0 11 (fX7_token a0 s0) (qV (fun s3 =>
        cV s3 a0 11 (fX7_line a0 s3) (qV (fun s4 =>
        fX7_reads_162 n a0 s4)))))
      else (
        fX7_reads_188 a0 s0)))
    else (
      fX7_reads_188 a0 s0))
def fX7_reads_114  (a0 : Nat) (t0 : Nat) (t1 : Int32) (s0 : AS) : Option AR :=
  cV s0 t0 11 (fX7_failsIf t0 t1 1 s0) (qV (fun s1 =>
  cV s1 a0 11 (fX7_goesOn a0 s1) (qV (fun s2 =>
  cV s2 a0 11 (fX7_word a0 1000035 s2) (qV (fun s3 =>
  cV s3 a0 11 (fX7_takes a0 0 9 s3) (qI (fun v4 s5 =>
  sI s5 a0 11 6 v4 (fun s6 =>
  cV s6 a0 11 (fX7_takes a0 0 9 s6) (qI (fun v7 s8 =>
  sI s8 a0 11 7 v7 (fun s9 =>
  cV s9 a0 11 (fX7_takes a0 1 999 s9) (qI (fun v10 s11 =>
  sI s11 a0 11 8 v10 (fun s12 =>
  fX7_reads_162 FU a0 s12)))))))))))))))
def fX7_reads_113  (a0 : Nat) (t0 : Nat) (s0 : AS) : Option AR :=
  fX7_reads_114 a0 t0 0 s0
def fX7_reads (a0 : Nat) (x1 : Int32) (s0 : AS) : Option AR :=
  sI s0 a0 11 21 x1 (fun s1 =>
  sI s1 a0 11 22 0 (fun s2 =>
  sI s2 a0 11 26 0 (fun s3 =>
  sI s3 a0 11 27 ((-1)) (fun s4 =>
  cV s4 a0 11 (fX7_clears a0 s4) (qV (fun s5 =>
  cV s5 a0 11 (fX7_token a0 s5) (qV (fun s6 =>
  cV s6 a0 11 (fX7_word a0 1000034 s6) (qV (fun s7 =>
  cV s7 a0 11 (fX7_takes a0 10 500 s7) (qI (fun v8 s9 =>
  sI s9 a0 11 2 v8 (fun s10 =>
  cV s10 a0 11 (fX7_takes a0 1 8 s10) (qI (fun v11 s12 =>
  sI s12 a0 11 3 v11 (fun s13 =>
  cV s13 a0 11 (fX7_takes a0 1 50 s13) (qI (fun v14 s15 =>
  sI s15 a0 11 4 v14 (fun s16 =>
  cV s16 a0 11 (fX7_takes a0 0 20 s16) (qI (fun v17 s18 =>
  sI s18 a0 11 5 v17 (fun s19 =>
  gR s19 a0 11 12 (fun q20 =>
  cV s19 a0 11 (fX7_takes a0 0 20 s19) (qI (fun v21 s22 =>
  uI s22 q20 0 v21 (fun s23 =>
  gI s23 a0 11 26 (fun v24 =>
  if v24 = 0 then (
    gI s23 a0 11 24 (fun v25 =>
    if v25 = (3 : Int32) then (
      fX7_reads_113 a0 a0 s23)
    else (
      fX7_reads_114 a0 a0 1 s23)))
  else (
    fX7_reads_113 a0 a0 s23))))))))))))))))))))))))))))
set_option maxHeartbeats 4000000 in
theorem oX7_reads_201 {Γ : CX} (C : OKC Γ cX7_reads RX7 none) (T : ∀ z ∈ (cx_c Γ).exceptionTable.toList, False) (hn : cx_nL Γ = 2) (hR : cx_fr Γ = 8 ∧ cx_lo Γ = 210) (hin : (cx_meth Γ).name = yX7_reads.name) : ∀ (t0 : Nat) (t1 : Int32) (s0 : AS), OK Γ 201 [] [.int t1, .ref t0] (fX7_reads_201  t0 t1 s0) s0 := by
  intro t0 t1 s0
  unfold fX7_reads_201
  refine ok_iconst C (v := 1) dX7_reads_201 (by decide) ?_
  refine ok_callV C T [.int t1, .int 1] (F := fX7_failsIf t0 t1 1) (ctX7_failsIf (C.2.2.2.2.2.2.2.2.1) t0 t1 1) vlX7_136 viX7_failsIf rfl rfl (by decide) rfl (by rw [hR.1, hR.2]; decide) (Nat.le_of_ble_eq_true rfl) dX7_reads_202 (ok_qV fun s1 => ?_)
  exact ok_vreturn C dX7_reads_205
set_option maxHeartbeats 4000000 in
theorem oX7_reads_188 {Γ : CX} (C : OKC Γ cX7_reads RX7 none) (T : ∀ z ∈ (cx_c Γ).exceptionTable.toList, False) (hn : cx_nL Γ = 2) (hR : cx_fr Γ = 8 ∧ cx_lo Γ = 210) (hin : (cx_meth Γ).name = yX7_reads.name) : ∀ (a0 : Nat) (s0 : AS), OK Γ 188 [(0, .ref a0)] [] (fX7_reads_188  a0 s0) s0 := by
  intro a0 s0
  unfold fX7_reads_188
  refine ok_aload_n C 0 dX7_reads_188 rfl ?_
  refine ok_aload_n C 0 dX7_reads_189 rfl ?_
  refine ok_getI C frX7_97_11 dX7_reads_190 (fun v1 => ?_)
  refine ok_if_eq C 200 dX7_reads_193 (by decide) ?_ ?_
  · refine ok_iconst C (v := 0) dX7_reads_200 (by decide) ?_
    refine OK.sub (lv' := []) [] rfl ?_
    exact oX7_reads_201 C T hn hR hin a0 0 s0
  · refine ok_iconst C (v := 1) dX7_reads_196 (by decide) ?_
    refine ok_goto C 201 dX7_reads_197 (by decide) ?_
    refine OK.sub (lv' := []) [] rfl ?_
    exact oX7_reads_201 C T hn hR hin a0 1 s0
set_option maxHeartbeats 4000000 in
theorem oX7_reads_162 {Γ : CX} (C : OKC Γ cX7_reads RX7 none) (T : ∀ z ∈ (cx_c Γ).exceptionTable.toList, False) (hn : cx_nL Γ = 2) (hR : cx_fr Γ = 8 ∧ cx_lo Γ = 210) (hin : (cx_meth Γ).name = yX7_reads.name) : ∀ (n : Nat) (a0 : Nat) (s0 : AS), OK Γ 162 [(0, .ref a0)] [] (fX7_reads_162 n a0 s0) s0 := by
  intro n
  induction n with
  | zero => intro _ s0; exact OK.none
  | succ n ih =>
    intro a0 s0
    rw [fX7_reads_162]
    refine ok_aload_n C 0 dX7_reads_162 rfl ?_
    refine ok_getI C frX7_110_11 dX7_reads_163 (fun v1 => ?_)
    refine ok_if_ne C 188 dX7_reads_166 (by decide) ?_ ?_
    · exact oX7_reads_188 C T hn hR hin a0 s0
    · refine ok_aload_n C 0 dX7_reads_169 rfl ?_
      refine ok_getI C frX7_97_11 dX7_reads_170 (fun v2 => ?_)
      refine ok_iconst C (v := 3) dX7_reads_173 (by decide) ?_
      refine ok_icmp_ne C 188 dX7_reads_174 (by decide) ?_ ?_
      · exact oX7_reads_188 C T hn hR hin a0 s0
      · refine ok_aload_n C 0 dX7_reads_177 rfl ?_
        refine ok_callV C T [] (F := fX7_token a0) (ctX7_token (C.2.2.2.2.2.2.2.2.1) a0) vlX7_120 viX7_token rfl rfl (by decide) rfl (by rw [hR.1, hR.2]; decide) (Nat.le_of_ble_eq_true rfl) dX7_reads_178 (ok_qV fun s3 => ?_)
        refine ok_aload_n C 0 dX7_reads_181 rfl ?_
        refine ok_callV C T [] (F := fX7_line a0) (ctX7_line (C.2.2.2.2.2.2.2.2.1) a0) vlX7_223 viX7_line rfl rfl (by decide) rfl (by rw [hR.1, hR.2]; decide) (Nat.le_of_ble_eq_true rfl) dX7_reads_182 (ok_qV fun s4 => ?_)
        refine ok_goto C 162 dX7_reads_185 (by decide) ?_
        exact ih a0 s4
set_option maxHeartbeats 4000000 in
theorem oX7_reads_114 {Γ : CX} (C : OKC Γ cX7_reads RX7 none) (T : ∀ z ∈ (cx_c Γ).exceptionTable.toList, False) (hn : cx_nL Γ = 2) (hR : cx_fr Γ = 8 ∧ cx_lo Γ = 210) (hin : (cx_meth Γ).name = yX7_reads.name) : ∀ (a0 : Nat) (t0 : Nat) (t1 : Int32) (s0 : AS), OK Γ 114 [(0, .ref a0)] [.int t1, .ref t0] (fX7_reads_114  a0 t0 t1 s0) s0 := by
  intro a0 t0 t1 s0
  unfold fX7_reads_114
  refine ok_iconst C (v := 1) dX7_reads_114 (by decide) ?_
  refine ok_callV C T [.int t1, .int 1] (F := fX7_failsIf t0 t1 1) (ctX7_failsIf (C.2.2.2.2.2.2.2.2.1) t0 t1 1) vlX7_136 viX7_failsIf rfl rfl (by decide) rfl (by rw [hR.1, hR.2]; decide) (Nat.le_of_ble_eq_true rfl) dX7_reads_115 (ok_qV fun s1 => ?_)
  refine ok_aload_n C 0 dX7_reads_118 rfl ?_
  refine ok_callV C T [] (F := fX7_goesOn a0) (ctX7_goesOn (C.2.2.2.2.2.2.2.2.1) a0) vlX7_140 viX7_goesOn rfl rfl (by decide) rfl (by rw [hR.1, hR.2]; decide) (Nat.le_of_ble_eq_true rfl) dX7_reads_119 (ok_qV fun s2 => ?_)
  refine ok_aload_n C 0 dX7_reads_122 rfl ?_
  refine ok_ldcS C 35 rfl dX7_reads_123 ?_
  refine ok_callV C T [.ref 1000035] (F := fX7_word a0 1000035) (ctX7_word (C.2.2.2.2.2.2.2.2.1) a0 1000035) vlX7_217 viX7_word rfl rfl (by decide) rfl (by rw [hR.1, hR.2]; decide) (Nat.le_of_ble_eq_true rfl) dX7_reads_125 (ok_qV fun s3 => ?_)
  refine ok_aload_n C 0 dX7_reads_128 rfl ?_
  refine ok_aload_n C 0 dX7_reads_129 rfl ?_
  refine ok_iconst C (v := 0) dX7_reads_130 (by decide) ?_
  refine ok_bipush C (v := 9) dX7_reads_131 (by decide) ?_
  refine ok_callV C T [.int 0, .int 9] (F := fX7_takes a0 0 9) (ctX7_takes (C.2.2.2.2.2.2.2.2.1) a0 0 9) vlX7_186 viX7_takes rfl rfl (by decide) rfl (by rw [hR.1, hR.2]; decide) (Nat.le_of_ble_eq_true rfl) dX7_reads_133 (ok_qI fun v4 s5 => ?_)
  refine ok_putI C flX7_163_11 dX7_reads_136 (fun s6 _ => ?_)
  refine ok_aload_n C 0 dX7_reads_139 rfl ?_
  refine ok_aload_n C 0 dX7_reads_140 rfl ?_
  refine ok_iconst C (v := 0) dX7_reads_141 (by decide) ?_
  refine ok_bipush C (v := 9) dX7_reads_142 (by decide) ?_
  refine ok_callV C T [.int 0, .int 9] (F := fX7_takes a0 0 9) (ctX7_takes (C.2.2.2.2.2.2.2.2.1) a0 0 9) vlX7_186 viX7_takes rfl rfl (by decide) rfl (by rw [hR.1, hR.2]; decide) (Nat.le_of_ble_eq_true rfl) dX7_reads_144 (ok_qI fun v7 s8 => ?_)
  refine ok_putI C flX7_166_11 dX7_reads_147 (fun s9 _ => ?_)
  refine ok_aload_n C 0 dX7_reads_150 rfl ?_
  refine ok_aload_n C 0 dX7_reads_151 rfl ?_
  refine ok_iconst C (v := 1) dX7_reads_152 (by decide) ?_
  refine ok_sipush C (v := 999) dX7_reads_153 (by decide) ?_
  refine ok_callV C T [.int 1, .int 999] (F := fX7_takes a0 1 999) (ctX7_takes (C.2.2.2.2.2.2.2.2.1) a0 1 999) vlX7_186 viX7_takes rfl rfl (by decide) rfl (by rw [hR.1, hR.2]; decide) (Nat.le_of_ble_eq_true rfl) dX7_reads_156 (ok_qI fun v10 s11 => ?_)
  refine ok_putI C flX7_169_11 dX7_reads_159 (fun s12 _ => ?_)
  exact oX7_reads_162 C T hn hR hin FU a0 s12
set_option maxHeartbeats 4000000 in
theorem oX7_reads_113 {Γ : CX} (C : OKC Γ cX7_reads RX7 none) (T : ∀ z ∈ (cx_c Γ).exceptionTable.toList, False) (hn : cx_nL Γ = 2) (hR : cx_fr Γ = 8 ∧ cx_lo Γ = 210) (hin : (cx_meth Γ).name = yX7_reads.name) : ∀ (a0 : Nat) (t0 : Nat) (s0 : AS), OK Γ 113 [(0, .ref a0)] [.ref t0] (fX7_reads_113  a0 t0 s0) s0 := by
  intro a0 t0 s0
  unfold fX7_reads_113
  refine ok_iconst C (v := 0) dX7_reads_113 (by decide) ?_
  exact oX7_reads_114 C T hn hR hin a0 t0 0 s0
set_option maxHeartbeats 4000000 in
theorem oX7_reads {Γ : CX} (C : OKC Γ cX7_reads RX7 none) (T : ∀ z ∈ (cx_c Γ).exceptionTable.toList, False) (hn : cx_nL Γ = 2) (hR : cx_fr Γ = 8 ∧ cx_lo Γ = 210) (hin : (cx_meth Γ).name = yX7_reads.name) : ∀ (a0 : Nat) (x1 : Int32) (s0 : AS), OK Γ 0 [(0, .ref a0), (1, .int x1)] [] (fX7_reads a0 x1 s0) s0 := by
  intro a0 x1 s0
  unfold fX7_reads
  refine ok_aload_n C 0 dX7_reads_0 rfl ?_
  refine ok_iload_n C 1 dX7_reads_1 rfl ?_
  refine ok_putI C flX7_84_11 dX7_reads_2 (fun s1 _ => ?_)
  refine ok_aload_n C 0 dX7_reads_5 rfl ?_
  refine ok_iconst C (v := 0) dX7_reads_6 (by decide) ?_
  refine ok_putI C flX7_87_11 dX7_reads_7 (fun s2 _ => ?_)
  refine ok_aload_n C 0 dX7_reads_10 rfl ?_
  refine ok_iconst C (v := 0) dX7_reads_11 (by decide) ?_
  refine ok_putI C flX7_110_11 dX7_reads_12 (fun s3 _ => ?_)
  refine ok_aload_n C 0 dX7_reads_15 rfl ?_
  refine ok_iconst C (v := (-1)) dX7_reads_16 (by decide) ?_
  refine ok_putI C flX7_113_11 dX7_reads_17 (fun s4 _ => ?_)
  refine ok_aload_n C 0 dX7_reads_20 rfl ?_
  refine ok_callV C T [] (F := fX7_clears a0) (ctX7_clears (C.2.2.2.2.2.2.2.2.1) a0) vlX7_212 viX7_clears rfl rfl (by decide) rfl (by rw [hR.1, hR.2]; decide) (Nat.le_of_ble_eq_true rfl) dX7_reads_21 (ok_qV fun s5 => ?_)
  refine ok_aload_n C 0 dX7_reads_24 rfl ?_
  refine ok_callV C T [] (F := fX7_token a0) (ctX7_token (C.2.2.2.2.2.2.2.2.1) a0) vlX7_120 viX7_token rfl rfl (by decide) rfl (by rw [hR.1, hR.2]; decide) (Nat.le_of_ble_eq_true rfl) dX7_reads_25 (ok_qV fun s6 => ?_)
  refine ok_aload_n C 0 dX7_reads_28 rfl ?_
  refine ok_ldcS C 34 rfl dX7_reads_29 ?_
  refine ok_callV C T [.ref 1000034] (F := fX7_word a0 1000034) (ctX7_word (C.2.2.2.2.2.2.2.2.1) a0 1000034) vlX7_217 viX7_word rfl rfl (by decide) rfl (by rw [hR.1, hR.2]; decide) (Nat.le_of_ble_eq_true rfl) dX7_reads_31 (ok_qV fun s7 => ?_)
  refine ok_aload_n C 0 dX7_reads_34 rfl ?_
  refine ok_aload_n C 0 dX7_reads_35 rfl ?_
  refine ok_bipush C (v := 10) dX7_reads_36 (by decide) ?_
  refine ok_sipush C (v := 500) dX7_reads_38 (by decide) ?_
  refine ok_callV C T [.int 10, .int 500] (F := fX7_takes a0 10 500) (ctX7_takes (C.2.2.2.2.2.2.2.2.1) a0 10 500) vlX7_186 viX7_takes rfl rfl (by decide) rfl (by rw [hR.1, hR.2]; decide) (Nat.le_of_ble_eq_true rfl) dX7_reads_41 (ok_qI fun v8 s9 => ?_)
  refine ok_putI C flX7_151_11 dX7_reads_44 (fun s10 _ => ?_)
  refine ok_aload_n C 0 dX7_reads_47 rfl ?_
  refine ok_aload_n C 0 dX7_reads_48 rfl ?_
  refine ok_iconst C (v := 1) dX7_reads_49 (by decide) ?_
  refine ok_bipush C (v := 8) dX7_reads_50 (by decide) ?_
  refine ok_callV C T [.int 1, .int 8] (F := fX7_takes a0 1 8) (ctX7_takes (C.2.2.2.2.2.2.2.2.1) a0 1 8) vlX7_186 viX7_takes rfl rfl (by decide) rfl (by rw [hR.1, hR.2]; decide) (Nat.le_of_ble_eq_true rfl) dX7_reads_52 (ok_qI fun v11 s12 => ?_)
  refine ok_putI C flX7_154_11 dX7_reads_55 (fun s13 _ => ?_)
  refine ok_aload_n C 0 dX7_reads_58 rfl ?_
  refine ok_aload_n C 0 dX7_reads_59 rfl ?_
  refine ok_iconst C (v := 1) dX7_reads_60 (by decide) ?_
  refine ok_bipush C (v := 50) dX7_reads_61 (by decide) ?_
  refine ok_callV C T [.int 1, .int 50] (F := fX7_takes a0 1 50) (ctX7_takes (C.2.2.2.2.2.2.2.2.1) a0 1 50) vlX7_186 viX7_takes rfl rfl (by decide) rfl (by rw [hR.1, hR.2]; decide) (Nat.le_of_ble_eq_true rfl) dX7_reads_63 (ok_qI fun v14 s15 => ?_)
  refine ok_putI C flX7_157_11 dX7_reads_66 (fun s16 _ => ?_)
  refine ok_aload_n C 0 dX7_reads_69 rfl ?_
  refine ok_aload_n C 0 dX7_reads_70 rfl ?_
  refine ok_iconst C (v := 0) dX7_reads_71 (by decide) ?_
  refine ok_bipush C (v := 20) dX7_reads_72 (by decide) ?_
  refine ok_callV C T [.int 0, .int 20] (F := fX7_takes a0 0 20) (ctX7_takes (C.2.2.2.2.2.2.2.2.1) a0 0 20) vlX7_186 viX7_takes rfl rfl (by decide) rfl (by rw [hR.1, hR.2]; decide) (Nat.le_of_ble_eq_true rfl) dX7_reads_74 (ok_qI fun v17 s18 => ?_)
  refine ok_putI C flX7_160_11 dX7_reads_77 (fun s19 _ => ?_)
  refine ok_aload_n C 0 dX7_reads_80 rfl ?_
  refine ok_getR C frX7_17_11 dX7_reads_81 (fun q20 => ?_)
  refine ok_iconst C (v := 0) dX7_reads_84 (by decide) ?_
  refine ok_aload_n C 0 dX7_reads_85 rfl ?_
  refine ok_iconst C (v := 0) dX7_reads_86 (by decide) ?_
  refine ok_bipush C (v := 20) dX7_reads_87 (by decide) ?_
  refine ok_callV C T [.int 0, .int 20] (F := fX7_takes a0 0 20) (ctX7_takes (C.2.2.2.2.2.2.2.2.1) a0 0 20) vlX7_186 viX7_takes rfl rfl (by decide) rfl (by rw [hR.1, hR.2]; decide) (Nat.le_of_ble_eq_true rfl) dX7_reads_89 (ok_qI fun v21 s22 => ?_)
  refine ok_iast C dX7_reads_92 (fun s23 _ => ?_)
  refine ok_aload_n C 0 dX7_reads_93 rfl ?_
  refine ok_aload_n C 0 dX7_reads_94 rfl ?_
  refine ok_getI C frX7_110_11 dX7_reads_95 (fun v24 => ?_)
  refine ok_if_ne C 113 dX7_reads_98 (by decide) ?_ ?_
  · refine OK.sub (lv' := [(0, .ref a0)]) [0] rfl ?_
    exact oX7_reads_113 C T hn hR hin a0 a0 s23
  · refine ok_aload_n C 0 dX7_reads_101 rfl ?_
    refine ok_getI C frX7_97_11 dX7_reads_102 (fun v25 => ?_)
    refine ok_iconst C (v := 3) dX7_reads_105 (by decide) ?_
    refine ok_icmp_eq C 113 dX7_reads_106 (by decide) ?_ ?_
    · refine OK.sub (lv' := [(0, .ref a0)]) [0] rfl ?_
      exact oX7_reads_113 C T hn hR hin a0 a0 s23
    · refine ok_iconst C (v := 1) dX7_reads_109 (by decide) ?_
      refine ok_goto C 114 dX7_reads_110 (by decide) ?_
      refine OK.sub (lv' := [(0, .ref a0)]) [0] rfl ?_
      exact oX7_reads_114 C T hn hR hin a0 a0 1 s23
theorem ctX7_reads {l : Launch} (hl : l.stackTraces = false) {D : va_G} {dA : Nat → ClassId} {B0 : Nat} (a0 : Nat) (x1 : Int32) : Ct l D dA B0 yX7_reads (.code yX7_reads cX7_reads 2 (none) :: ax_ALL) 8 210 [.ref a0, .int x1] (fX7_reads a0 x1) :=
  Ct.of hl (by decide +kernel) (Nat.le_of_ble_eq_true rfl) fun Γ C _ _ _ _ e5 e6 e7 T hin => oX7_reads C T e5 ⟨e6, e7⟩ hin a0 x1 _
/-! ChaseLockerModel.load(I)I -/
def fX7_load_86  (a0 : Nat) (t0 : Nat) (t1 : Int32) (s0 : AS) : Option AR :=
  cV s0 t0 11 (fX7_refuse t0 t1 2 s0) (qI (fun v1 s2 =>
  if v1 = 0 then (
    sZ s2 a0 11 1 1 (fun s3 =>
    sI s3 a0 11 15 0 (fun s4 =>
    gR s4 a0 11 16 (fun q5 =>
    uN 101 .boolean s4 q5 0 0 (fun s6 =>
    gR s6 a0 11 16 (fun q7 =>
    uN 101 .boolean s6 q7 1 0 (fun s8 =>
    gI s8 a0 11 9 (fun v9 =>
    some (.inl (some (.int v9)), s8)))))))))
  else (
    cV s2 a0 11 (fX7_laysBack a0 s2) (qV (fun s10 =>
    some (.inl (some (.int 0)), s10))))))
def fX7_load_70  (a0 : Nat) (t0 : Nat) (t1 : Int32) (s0 : AS) : Option AR :=
  sI s0 t0 11 20 t1 (fun s1 =>
  gI s1 a0 11 26 (fun v2 =>
  if v2 = 0 then (
    fX7_load_86 a0 a0 0 s1)
  else (
    fX7_load_86 a0 a0 1 s1)))
def fX7_load_23  (a0 : Nat) (x1 : Int32) (t0 : Nat) (t1 : Int32) (s0 : AS) : Option AR :=
  cV s0 t0 11 (fX7_refuse t0 t1 1 s0) (qI (fun v1 s2 =>
  if v1 = 0 then (
    sI s2 a0 11 18 0 (fun s3 =>
    cV s3 a0 11 (fX7_holds a0 s3) (qV (fun s4 =>
    cV s4 a0 11 (fX7_reads a0 x1 s4) (qV (fun s5 =>
    gI s5 a0 11 26 (fun v6 =>
    sI s5 a0 11 19 v6 (fun s7 =>
    gI s7 a0 11 26 (fun v8 =>
    if v8 = 0 then (
      fX7_load_70 a0 a0 ((-1)) s7)
    else (
      gI s7 a0 11 27 (fun v9 =>
      fX7_load_70 a0 a0 v9 s7)))))))))))
  else (
    some (.inl (some (.int 0)), s2))))
def fX7_load (a0 : Nat) (x1 : Int32) (s0 : AS) : Option AR :=
  sI s0 a0 11 0 0 (fun s1 =>
  gI s1 a0 11 18 (fun v2 =>
  cS s1 (fX7_in x1 0 v2 s1) (qI (fun v3 s4 =>
  if v3 = 0 then (
    fX7_load_23 a0 x1 a0 1 s4)
  else (
    fX7_load_23 a0 x1 a0 0 s4)))))
set_option maxHeartbeats 4000000 in
theorem oX7_load_86 {Γ : CX} (C : OKC Γ cX7_load RX7 (some (.int))) (T : ∀ z ∈ (cx_c Γ).exceptionTable.toList, False) (hn : cx_nL Γ = 2) (hR : cx_fr Γ = 9 ∧ cx_lo Γ = 231) (hin : (cx_meth Γ).name = yX7_load.name) : ∀ (a0 : Nat) (t0 : Nat) (t1 : Int32) (s0 : AS), OK Γ 86 [(0, .ref a0)] [.int t1, .ref t0] (fX7_load_86  a0 t0 t1 s0) s0 := by
  intro a0 t0 t1 s0
  unfold fX7_load_86
  refine ok_iconst C (v := 2) dX7_load_86 (by decide) ?_
  refine ok_callV C T [.int t1, .int 2] (F := fX7_refuse t0 t1 2) (ctX7_refuse (C.2.2.2.2.2.2.2.2.1) t0 t1 2) vlX7_74 viX7_refuse rfl rfl (by decide) rfl (by rw [hR.1, hR.2]; decide) (Nat.le_of_ble_eq_true rfl) dX7_load_87 (ok_qI fun v1 s2 => ?_)
  refine ok_if_eq C 99 dX7_load_90 (by decide) ?_ ?_
  · refine ok_aload_n C 0 dX7_load_99 rfl ?_
    refine ok_iconst C (v := 1) dX7_load_100 (by decide) ?_
    refine ok_putZ C flX7_70_11 dX7_load_101 (fun s3 _ => ?_)
    refine ok_aload_n C 0 dX7_load_104 rfl ?_
    refine ok_iconst C (v := 0) dX7_load_105 (by decide) ?_
    refine ok_putI C flX7_235_11 dX7_load_106 (fun s4 _ => ?_)
    refine ok_aload_n C 0 dX7_load_109 rfl ?_
    refine ok_getR C frX7_27_11 dX7_load_110 (fun q5 => ?_)
    refine ok_iconst C (v := 0) dX7_load_113 (by decide) ?_
    refine ok_iconst C (v := 0) dX7_load_114 (by decide) ?_
    refine ok_zast C dX7_load_115 (fun s6 _ => ?_)
    refine ok_aload_n C 0 dX7_load_116 rfl ?_
    refine ok_getR C frX7_27_11 dX7_load_117 (fun q7 => ?_)
    refine ok_iconst C (v := 1) dX7_load_120 (by decide) ?_
    refine ok_iconst C (v := 0) dX7_load_121 (by decide) ?_
    refine ok_zast C dX7_load_122 (fun s8 _ => ?_)
    refine ok_aload_n C 0 dX7_load_123 rfl ?_
    refine ok_getI C frX7_172_11 dX7_load_124 (fun v9 => ?_)
    exact ok_ireturn C dX7_load_127
  · refine ok_aload_n C 0 dX7_load_93 rfl ?_
    refine ok_callV C T [] (F := fX7_laysBack a0) (ctX7_laysBack (C.2.2.2.2.2.2.2.2.1) a0) vlX7_232 viX7_laysBack rfl rfl (by decide) rfl (by rw [hR.1, hR.2]; decide) (Nat.le_of_ble_eq_true rfl) dX7_load_94 (ok_qV fun s10 => ?_)
    refine ok_iconst C (v := 0) dX7_load_97 (by decide) ?_
    exact ok_ireturn C dX7_load_98
set_option maxHeartbeats 4000000 in
theorem oX7_load_70 {Γ : CX} (C : OKC Γ cX7_load RX7 (some (.int))) (T : ∀ z ∈ (cx_c Γ).exceptionTable.toList, False) (hn : cx_nL Γ = 2) (hR : cx_fr Γ = 9 ∧ cx_lo Γ = 231) (hin : (cx_meth Γ).name = yX7_load.name) : ∀ (a0 : Nat) (t0 : Nat) (t1 : Int32) (s0 : AS), OK Γ 70 [(0, .ref a0)] [.int t1, .ref t0] (fX7_load_70  a0 t0 t1 s0) s0 := by
  intro a0 t0 t1 s0
  unfold fX7_load_70
  refine ok_putI C flX7_33_11 dX7_load_70 (fun s1 _ => ?_)
  refine ok_aload_n C 0 dX7_load_73 rfl ?_
  refine ok_aload_n C 0 dX7_load_74 rfl ?_
  refine ok_getI C frX7_110_11 dX7_load_75 (fun v2 => ?_)
  refine ok_if_eq C 85 dX7_load_78 (by decide) ?_ ?_
  · refine ok_iconst C (v := 0) dX7_load_85 (by decide) ?_
    exact oX7_load_86 C T hn hR hin a0 a0 0 s1
  · refine ok_iconst C (v := 1) dX7_load_81 (by decide) ?_
    refine ok_goto C 86 dX7_load_82 (by decide) ?_
    exact oX7_load_86 C T hn hR hin a0 a0 1 s1
set_option maxHeartbeats 4000000 in
theorem oX7_load_23 {Γ : CX} (C : OKC Γ cX7_load RX7 (some (.int))) (T : ∀ z ∈ (cx_c Γ).exceptionTable.toList, False) (hn : cx_nL Γ = 2) (hR : cx_fr Γ = 9 ∧ cx_lo Γ = 231) (hin : (cx_meth Γ).name = yX7_load.name) : ∀ (a0 : Nat) (x1 : Int32) (t0 : Nat) (t1 : Int32) (s0 : AS), OK Γ 23 [(0, .ref a0), (1, .int x1)] [.int t1, .ref t0] (fX7_load_23  a0 x1 t0 t1 s0) s0 := by
  intro a0 x1 t0 t1 s0
  unfold fX7_load_23
  refine ok_iconst C (v := 1) dX7_load_23 (by decide) ?_
  refine ok_callV C T [.int t1, .int 1] (F := fX7_refuse t0 t1 1) (ctX7_refuse (C.2.2.2.2.2.2.2.2.1) t0 t1 1) vlX7_74 viX7_refuse rfl rfl (by decide) rfl (by rw [hR.1, hR.2]; decide) (Nat.le_of_ble_eq_true rfl) dX7_load_24 (ok_qI fun v1 s2 => ?_)
  refine ok_if_eq C 32 dX7_load_27 (by decide) ?_ ?_
  · refine ok_aload_n C 0 dX7_load_32 rfl ?_
    refine ok_iconst C (v := 0) dX7_load_33 (by decide) ?_
    refine ok_putI C flX7_78_11 dX7_load_34 (fun s3 _ => ?_)
    refine ok_aload_n C 0 dX7_load_37 rfl ?_
    refine ok_callV C T [] (F := fX7_holds a0) (ctX7_holds (C.2.2.2.2.2.2.2.2.1) a0) vlX7_226 viX7_holds rfl rfl (by decide) rfl (by rw [hR.1, hR.2]; decide) (Nat.le_of_ble_eq_true rfl) dX7_load_38 (ok_qV fun s4 => ?_)
    refine ok_aload_n C 0 dX7_load_41 rfl ?_
    refine ok_iload_n C 1 dX7_load_42 rfl ?_
    refine ok_callV C T [.int x1] (F := fX7_reads a0 x1) (ctX7_reads (C.2.2.2.2.2.2.2.2.1) a0 x1) vlX7_229 viX7_reads rfl rfl (by decide) rfl (by rw [hR.1, hR.2]; decide) (Nat.le_of_ble_eq_true rfl) dX7_load_43 (ok_qV fun s5 => ?_)
    refine ok_aload_n C 0 dX7_load_46 rfl ?_
    refine ok_aload_n C 0 dX7_load_47 rfl ?_
    refine ok_getI C frX7_110_11 dX7_load_48 (fun v6 => ?_)
    refine ok_putI C flX7_81_11 dX7_load_51 (fun s7 _ => ?_)
    refine ok_aload_n C 0 dX7_load_54 rfl ?_
    refine ok_aload_n C 0 dX7_load_55 rfl ?_
    refine ok_getI C frX7_110_11 dX7_load_56 (fun v8 => ?_)
    refine ok_if_ne C 66 dX7_load_59 (by decide) ?_ ?_
    · refine ok_aload_n C 0 dX7_load_66 rfl ?_
      refine ok_getI C frX7_113_11 dX7_load_67 (fun v9 => ?_)
      refine OK.sub (lv' := [(0, .ref a0)]) [0] rfl ?_
      exact oX7_load_70 C T hn hR hin a0 a0 v9 s7
    · refine ok_iconst C (v := (-1)) dX7_load_62 (by decide) ?_
      refine ok_goto C 70 dX7_load_63 (by decide) ?_
      refine OK.sub (lv' := [(0, .ref a0)]) [0] rfl ?_
      exact oX7_load_70 C T hn hR hin a0 a0 ((-1)) s7
  · refine ok_iconst C (v := 0) dX7_load_30 (by decide) ?_
    exact ok_ireturn C dX7_load_31
set_option maxHeartbeats 4000000 in
theorem oX7_load {Γ : CX} (C : OKC Γ cX7_load RX7 (some (.int))) (T : ∀ z ∈ (cx_c Γ).exceptionTable.toList, False) (hn : cx_nL Γ = 2) (hR : cx_fr Γ = 9 ∧ cx_lo Γ = 231) (hin : (cx_meth Γ).name = yX7_load.name) : ∀ (a0 : Nat) (x1 : Int32) (s0 : AS), OK Γ 0 [(0, .ref a0), (1, .int x1)] [] (fX7_load a0 x1 s0) s0 := by
  intro a0 x1 s0
  unfold fX7_load
  refine ok_aload_n C 0 dX7_load_0 rfl ?_
  refine ok_iconst C (v := 0) dX7_load_1 (by decide) ?_
  refine ok_putI C flX7_67_11 dX7_load_2 (fun s1 _ => ?_)
  refine ok_aload_n C 0 dX7_load_5 rfl ?_
  refine ok_iload_n C 1 dX7_load_6 rfl ?_
  refine ok_iconst C (v := 0) dX7_load_7 (by decide) ?_
  refine ok_aload_n C 0 dX7_load_8 rfl ?_
  refine ok_getI C frX7_78_11 dX7_load_9 (fun v2 => ?_)
  refine ok_callS C T [.int x1, .int 0, .int v2] (F := fX7_in x1 0 v2) (ctX7_in (C.2.2.2.2.2.2.2.2.1) x1 0 v2) vlX7_143 kw_793 rfl (by rw [hR.1, hR.2]; decide) (Nat.le_of_ble_eq_true rfl) dX7_load_12 (ok_qI fun v3 s4 => ?_)
  refine ok_if_ne C 22 dX7_load_15 (by decide) ?_ ?_
  · refine ok_iconst C (v := 0) dX7_load_22 (by decide) ?_
    exact oX7_load_23 C T hn hR hin a0 x1 a0 0 s4
  · refine ok_iconst C (v := 1) dX7_load_18 (by decide) ?_
    refine ok_goto C 23 dX7_load_19 (by decide) ?_
    exact oX7_load_23 C T hn hR hin a0 x1 a0 1 s4
theorem ctX7_load {l : Launch} (hl : l.stackTraces = false) {D : va_G} {dA : Nat → ClassId} {B0 : Nat} (a0 : Nat) (x1 : Int32) : Ct l D dA B0 yX7_load (.code yX7_load cX7_load 2 (some (.int)) :: ax_ALL) 9 231 [.ref a0, .int x1] (fX7_load a0 x1) :=
  Ct.of hl (by decide +kernel) (Nat.le_of_ble_eq_true rfl) fun Γ C _ _ _ _ e5 e6 e7 T hin => oX7_load C T e5 ⟨e6, e7⟩ hin a0 x1 _
/-! ChaseLockerModel.woodIn(I)I -/
def fX7_woodIn_37 (r4 : Nat → Int32 → Int32 → Int32 → AS → Option AR) (a0 : Nat) (x1 : Int32) (x3 : Int32) (t0 : Int32) (t1 : Int32) (s0 : AS) : Option AR :=
  cS s0 (fX7_flag t1 s0) (qI (fun v1 s2 =>
  lt (t0 + v1) (fun v3 =>
  lt (x3 + 1) (fun v4 =>
  r4 a0 x1 v3 v4 s2))))
def fX7_woodIn_4  : Nat → Nat → Int32 → Int32 → Int32 → AS → Option AR
  | 0, _, _, _, _, _ => none
  | n + 1, a0, x1, x2, x3, s0 =>
    cV s0 a0 11 (fX7_of a0 x1 1 s0) (qI (fun v1 s2 =>
    if v1 ≤ x3 then (
      some (.inl (some (.int x2)), s2))
    else (
      gR s2 a0 11 10 (fun q3 =>
      cV s2 a0 11 (fX7_of a0 x1 (11 + x3) s2) (qI (fun v4 s5 =>
      aI s5 q3 101 v4 (fun v6 =>
      if v6 = 0 then (
        fX7_woodIn_37 (fX7_woodIn_4 n) a0 x1 x3 x2 1 s5)
      else (
        fX7_woodIn_37 (fX7_woodIn_4 n) a0 x1 x3 x2 0 s5))))))))
def fX7_woodIn (a0 : Nat) (x1 : Int32) (s0 : AS) : Option AR :=
  fX7_woodIn_4 FU a0 x1 0 0 s0
set_option maxHeartbeats 4000000 in
theorem oX7_woodIn_37 {Γ : CX} (C : OKC Γ cX7_woodIn RX7 (some (.int))) (T : ∀ z ∈ (cx_c Γ).exceptionTable.toList, False) (hn : cx_nL Γ = 4) (hR : cx_fr Γ = 2 ∧ cx_lo Γ = 82) (hin : (cx_meth Γ).name = yX7_woodIn.name) {r4 : Nat → Int32 → Int32 → Int32 → AS → Option AR} (h4 : ∀ (a0 : Nat) (x1 : Int32) (x2 : Int32) (x3 : Int32) (s0 : AS), OK Γ 4 [(0, .ref a0), (1, .int x1), (2, .int x2), (3, .int x3)] [] (r4 a0 x1 x2 x3 s0) s0) : ∀ (a0 : Nat) (x1 : Int32) (x3 : Int32) (t0 : Int32) (t1 : Int32) (s0 : AS), OK Γ 37 [(0, .ref a0), (1, .int x1), (3, .int x3)] [.int t1, .int t0] (fX7_woodIn_37 r4 a0 x1 x3 t0 t1 s0) s0 := by
  intro a0 x1 x3 t0 t1 s0
  unfold fX7_woodIn_37
  refine ok_callS C T [.int t1] (F := fX7_flag t1) (ctX7_flag (C.2.2.2.2.2.2.2.2.1) t1) vlX7_250 kw_882 rfl (by rw [hR.1, hR.2]; decide) (Nat.le_of_ble_eq_true rfl) dX7_woodIn_37 (ok_qI fun v1 s2 => ?_)
  refine ok_iadd C dX7_woodIn_40 ?_
  refine ok_lt (fun v3 => ?_)
  refine ok_istore_n C (i := 2) [(2, .int v3), (0, .ref a0), (1, .int x1), (3, .int x3)] dX7_woodIn_41 rfl (by rw [hn]; decide) rfl ?_
  refine ok_iincL C 3 (c := 1) (fun v4 => [(3, .int v4), (2, .int v3), (0, .ref a0), (1, .int x1)]) dX7_woodIn_42 rfl rfl (by rw [hn]; decide) (fun _ => rfl) (fun v4 => ?_)
  refine ok_goto C 4 dX7_woodIn_45 (by decide) ?_
  refine OK.sub (lv' := [(0, .ref a0), (1, .int x1), (2, .int v3), (3, .int v4)]) [2, 3, 1, 0] rfl ?_
  exact h4 a0 x1 v3 v4 s2
set_option maxHeartbeats 4000000 in
theorem oX7_woodIn_4 {Γ : CX} (C : OKC Γ cX7_woodIn RX7 (some (.int))) (T : ∀ z ∈ (cx_c Γ).exceptionTable.toList, False) (hn : cx_nL Γ = 4) (hR : cx_fr Γ = 2 ∧ cx_lo Γ = 82) (hin : (cx_meth Γ).name = yX7_woodIn.name) : ∀ (n : Nat) (a0 : Nat) (x1 : Int32) (x2 : Int32) (x3 : Int32) (s0 : AS), OK Γ 4 [(0, .ref a0), (1, .int x1), (2, .int x2), (3, .int x3)] [] (fX7_woodIn_4 n a0 x1 x2 x3 s0) s0 := by
  intro n
  induction n with
  | zero => intro _ _ _ _ s0; exact OK.none
  | succ n ih =>
    intro a0 x1 x2 x3 s0
    rw [fX7_woodIn_4]
    refine ok_iload_n C 3 dX7_woodIn_4 rfl ?_
    refine ok_aload_n C 0 dX7_woodIn_5 rfl ?_
    refine ok_iload_n C 1 dX7_woodIn_6 rfl ?_
    refine ok_iconst C (v := 1) dX7_woodIn_7 (by decide) ?_
    refine ok_callV C T [.int x1, .int 1] (F := fX7_of a0 x1 1) (ctX7_of (C.2.2.2.2.2.2.2.2.1) a0 x1 1) vlX7_189 viX7_of rfl rfl (by decide) rfl (by rw [hR.1, hR.2]; decide) (Nat.le_of_ble_eq_true rfl) dX7_woodIn_8 (ok_qI fun v1 s2 => ?_)
    refine ok_icmp_ge C 48 dX7_woodIn_11 (by decide) ?_ ?_
    · refine ok_iload_n C 2 dX7_woodIn_48 rfl ?_
      exact ok_ireturn C dX7_woodIn_49
    · refine ok_iload_n C 2 dX7_woodIn_14 rfl ?_
      refine ok_aload_n C 0 dX7_woodIn_15 rfl ?_
      refine ok_getR C frX7_7_11 dX7_woodIn_16 (fun q3 => ?_)
      refine ok_aload_n C 0 dX7_woodIn_19 rfl ?_
      refine ok_iload_n C 1 dX7_woodIn_20 rfl ?_
      refine ok_bipush C (v := 11) dX7_woodIn_21 (by decide) ?_
      refine ok_iload_n C 3 dX7_woodIn_23 rfl ?_
      refine ok_iadd C dX7_woodIn_24 ?_
      refine ok_callV C T [.int x1, .int (11 + x3)] (F := fX7_of a0 x1 (11 + x3)) (ctX7_of (C.2.2.2.2.2.2.2.2.1) a0 x1 (11 + x3)) vlX7_189 viX7_of rfl rfl (by decide) rfl (by rw [hR.1, hR.2]; decide) (Nat.le_of_ble_eq_true rfl) dX7_woodIn_25 (ok_qI fun v4 s5 => ?_)
      refine ok_zald C dX7_woodIn_28 (fun v6 => ?_)
      refine ok_if_ne C 36 dX7_woodIn_29 (by decide) ?_ ?_
      · refine ok_iconst C (v := 0) dX7_woodIn_36 (by decide) ?_
        refine OK.sub (lv' := [(0, .ref a0), (1, .int x1), (3, .int x3)]) [0, 1, 3] rfl ?_
        exact oX7_woodIn_37 C T hn hR hin ih a0 x1 x3 x2 0 s5
      · refine ok_iconst C (v := 1) dX7_woodIn_32 (by decide) ?_
        refine ok_goto C 37 dX7_woodIn_33 (by decide) ?_
        refine OK.sub (lv' := [(0, .ref a0), (1, .int x1), (3, .int x3)]) [0, 1, 3] rfl ?_
        exact oX7_woodIn_37 C T hn hR hin ih a0 x1 x3 x2 1 s5
set_option maxHeartbeats 4000000 in
theorem oX7_woodIn {Γ : CX} (C : OKC Γ cX7_woodIn RX7 (some (.int))) (T : ∀ z ∈ (cx_c Γ).exceptionTable.toList, False) (hn : cx_nL Γ = 4) (hR : cx_fr Γ = 2 ∧ cx_lo Γ = 82) (hin : (cx_meth Γ).name = yX7_woodIn.name) : ∀ (a0 : Nat) (x1 : Int32) (s0 : AS), OK Γ 0 [(0, .ref a0), (1, .int x1)] [] (fX7_woodIn a0 x1 s0) s0 := by
  intro a0 x1 s0
  unfold fX7_woodIn
  refine ok_iconst C (v := 0) dX7_woodIn_0 (by decide) ?_
  refine ok_istore_n C (i := 2) [(2, .int 0), (0, .ref a0), (1, .int x1)] dX7_woodIn_1 rfl (by rw [hn]; decide) rfl ?_
  refine ok_iconst C (v := 0) dX7_woodIn_2 (by decide) ?_
  refine ok_istore_n C (i := 3) [(3, .int 0), (2, .int 0), (0, .ref a0), (1, .int x1)] dX7_woodIn_3 rfl (by rw [hn]; decide) rfl ?_
  refine OK.sub (lv' := [(0, .ref a0), (1, .int x1), (2, .int 0), (3, .int 0)]) [2, 3, 1, 0] rfl ?_
  exact oX7_woodIn_4 C T hn hR hin FU a0 x1 0 0 s0
theorem ctX7_woodIn {l : Launch} (hl : l.stackTraces = false) {D : va_G} {dA : Nat → ClassId} {B0 : Nat} (a0 : Nat) (x1 : Int32) : Ct l D dA B0 yX7_woodIn (.code yX7_woodIn cX7_woodIn 4 (some (.int)) :: ax_ALL) 2 82 [.ref a0, .int x1] (fX7_woodIn a0 x1) :=
  Ct.of hl (by decide +kernel) (Nat.le_of_ble_eq_true rfl) fun Γ C _ _ _ _ e5 e6 e7 T hin => oX7_woodIn C T e5 ⟨e6, e7⟩ hin a0 x1 _
/-! ChaseLockerModel.isTightRow(I)Z -/
def fX7_isTightRow (a0 : Nat) (x1 : Int32) (s0 : AS) : Option AR :=
  cV s0 a0 11 (fX7_gap a0 x1 s0) (qI (fun v1 s2 =>
  if v1 = 0 then (
    cV s2 a0 11 (fX7_of a0 x1 4 s2) (qI (fun v3 s4 =>
    if v3 = 0 then (
      rZ 1 s4)
    else (
      rZ 0 s4))))
  else (
    rZ 0 s2)))
set_option maxHeartbeats 4000000 in
theorem oX7_isTightRow {Γ : CX} (C : OKC Γ cX7_isTightRow RX7 (some (.boolean))) (T : ∀ z ∈ (cx_c Γ).exceptionTable.toList, False) (hn : cx_nL Γ = 2) (hR : cx_fr Γ = 6 ∧ cx_lo Γ = 168) (hin : (cx_meth Γ).name = yX7_isTightRow.name) : ∀ (a0 : Nat) (x1 : Int32) (s0 : AS), OK Γ 0 [(0, .ref a0), (1, .int x1)] [] (fX7_isTightRow a0 x1 s0) s0 := by
  intro a0 x1 s0
  unfold fX7_isTightRow
  refine ok_aload_n C 0 dX7_isTightRow_0 rfl ?_
  refine ok_iload_n C 1 dX7_isTightRow_1 rfl ?_
  refine ok_callV C T [.int x1] (F := fX7_gap a0 x1) (ctX7_gap (C.2.2.2.2.2.2.2.2.1) a0 x1) vlX7_192 viX7_gap rfl rfl (by decide) rfl (by rw [hR.1, hR.2]; decide) (Nat.le_of_ble_eq_true rfl) dX7_isTightRow_2 (ok_qI fun v1 s2 => ?_)
  refine ok_if_ne C 21 dX7_isTightRow_5 (by decide) ?_ ?_
  · refine ok_iconst C (v := 0) dX7_isTightRow_21 (by decide) ?_
    exact ok_zreturn C dX7_isTightRow_22
  · refine ok_aload_n C 0 dX7_isTightRow_8 rfl ?_
    refine ok_iload_n C 1 dX7_isTightRow_9 rfl ?_
    refine ok_iconst C (v := 4) dX7_isTightRow_10 (by decide) ?_
    refine ok_callV C T [.int x1, .int 4] (F := fX7_of a0 x1 4) (ctX7_of (C.2.2.2.2.2.2.2.2.1) a0 x1 4) vlX7_189 viX7_of rfl rfl (by decide) rfl (by rw [hR.1, hR.2]; decide) (Nat.le_of_ble_eq_true rfl) dX7_isTightRow_11 (ok_qI fun v3 s4 => ?_)
    refine ok_if_ne C 21 dX7_isTightRow_14 (by decide) ?_ ?_
    · refine ok_iconst C (v := 0) dX7_isTightRow_21 (by decide) ?_
      exact ok_zreturn C dX7_isTightRow_22
    · refine ok_iconst C (v := 1) dX7_isTightRow_17 (by decide) ?_
      refine ok_goto C 22 dX7_isTightRow_18 (by decide) ?_
      exact ok_zreturn C dX7_isTightRow_22
theorem ctX7_isTightRow {l : Launch} (hl : l.stackTraces = false) {D : va_G} {dA : Nat → ClassId} {B0 : Nat} (a0 : Nat) (x1 : Int32) : Ct l D dA B0 yX7_isTightRow (.code yX7_isTightRow cX7_isTightRow 2 (some (.boolean)) :: ax_ALL) 6 168 [.ref a0, .int x1] (fX7_isTightRow a0 x1) :=
  Ct.of hl (by decide +kernel) (Nat.le_of_ble_eq_true rfl) fun Γ C _ _ _ _ e5 e6 e7 T hin => oX7_isTightRow C T e5 ⟨e6, e7⟩ hin a0 x1 _
/-! ChaseLockerModel.putsPiece(II)V -/
def fX7_putsPiece (a0 : Nat) (x1 : Int32) (x2 : Int32) (s0 : AS) : Option AR :=
  cV s0 a0 11 (fX7_of a0 x1 1 s0) (qI (fun v1 s2 =>
  cV s2 a0 11 (fX7_puts a0 x1 (11 + v1) x2 s2) (qV (fun s3 =>
  cV s3 a0 11 (fX7_of a0 x1 1 s3) (qI (fun v4 s5 =>
  cV s5 a0 11 (fX7_puts a0 x1 1 (v4 + 1) s5) (qV (fun s6 =>
  gR s6 a0 11 12 (fun q7 =>
  aI s6 q7 100 (6 + x2) (fun v8 =>
  uI s6 q7 (6 + x2) (v8 - 1) (fun s9 =>
  some (.inl none, s9))))))))))))
set_option maxHeartbeats 4000000 in
theorem oX7_putsPiece {Γ : CX} (C : OKC Γ cX7_putsPiece RX7 none) (T : ∀ z ∈ (cx_c Γ).exceptionTable.toList, False) (hn : cx_nL Γ = 3) (hR : cx_fr Γ = 2 ∧ cx_lo Γ = 83) (hin : (cx_meth Γ).name = yX7_putsPiece.name) : ∀ (a0 : Nat) (x1 : Int32) (x2 : Int32) (s0 : AS), OK Γ 0 [(0, .ref a0), (1, .int x1), (2, .int x2)] [] (fX7_putsPiece a0 x1 x2 s0) s0 := by
  intro a0 x1 x2 s0
  unfold fX7_putsPiece
  refine ok_aload_n C 0 dX7_putsPiece_0 rfl ?_
  refine ok_iload_n C 1 dX7_putsPiece_1 rfl ?_
  refine ok_bipush C (v := 11) dX7_putsPiece_2 (by decide) ?_
  refine ok_aload_n C 0 dX7_putsPiece_4 rfl ?_
  refine ok_iload_n C 1 dX7_putsPiece_5 rfl ?_
  refine ok_iconst C (v := 1) dX7_putsPiece_6 (by decide) ?_
  refine ok_callV C T [.int x1, .int 1] (F := fX7_of a0 x1 1) (ctX7_of (C.2.2.2.2.2.2.2.2.1) a0 x1 1) vlX7_189 viX7_of rfl rfl (by decide) rfl (by rw [hR.1, hR.2]; decide) (Nat.le_of_ble_eq_true rfl) dX7_putsPiece_7 (ok_qI fun v1 s2 => ?_)
  refine ok_iadd C dX7_putsPiece_10 ?_
  refine ok_iload_n C 2 dX7_putsPiece_11 rfl ?_
  refine ok_callV C T [.int x1, .int (11 + v1), .int x2] (F := fX7_puts a0 x1 (11 + v1) x2) (ctX7_puts (C.2.2.2.2.2.2.2.2.1) a0 x1 (11 + v1) x2) vlX7_178 viX7_puts rfl rfl (by decide) rfl (by rw [hR.1, hR.2]; decide) (Nat.le_of_ble_eq_true rfl) dX7_putsPiece_12 (ok_qV fun s3 => ?_)
  refine ok_aload_n C 0 dX7_putsPiece_15 rfl ?_
  refine ok_iload_n C 1 dX7_putsPiece_16 rfl ?_
  refine ok_iconst C (v := 1) dX7_putsPiece_17 (by decide) ?_
  refine ok_aload_n C 0 dX7_putsPiece_18 rfl ?_
  refine ok_iload_n C 1 dX7_putsPiece_19 rfl ?_
  refine ok_iconst C (v := 1) dX7_putsPiece_20 (by decide) ?_
  refine ok_callV C T [.int x1, .int 1] (F := fX7_of a0 x1 1) (ctX7_of (C.2.2.2.2.2.2.2.2.1) a0 x1 1) vlX7_189 viX7_of rfl rfl (by decide) rfl (by rw [hR.1, hR.2]; decide) (Nat.le_of_ble_eq_true rfl) dX7_putsPiece_21 (ok_qI fun v4 s5 => ?_)
  refine ok_iconst C (v := 1) dX7_putsPiece_24 (by decide) ?_
  refine ok_iadd C dX7_putsPiece_25 ?_
  refine ok_callV C T [.int x1, .int 1, .int (v4 + 1)] (F := fX7_puts a0 x1 1 (v4 + 1)) (ctX7_puts (C.2.2.2.2.2.2.2.2.1) a0 x1 1 (v4 + 1)) vlX7_178 viX7_puts rfl rfl (by decide) rfl (by rw [hR.1, hR.2]; decide) (Nat.le_of_ble_eq_true rfl) dX7_putsPiece_26 (ok_qV fun s6 => ?_)
  refine ok_aload_n C 0 dX7_putsPiece_29 rfl ?_
  refine ok_getR C frX7_17_11 dX7_putsPiece_30 (fun q7 => ?_)
  refine ok_bipush C (v := 6) dX7_putsPiece_33 (by decide) ?_
  refine ok_iload_n C 2 dX7_putsPiece_35 rfl ?_
  refine ok_iadd C dX7_putsPiece_36 ?_
  refine ok_dup2 C dX7_putsPiece_37 rfl rfl ?_
  refine ok_iald C dX7_putsPiece_38 (fun v8 => ?_)
  refine ok_iconst C (v := 1) dX7_putsPiece_39 (by decide) ?_
  refine ok_isub C dX7_putsPiece_40 ?_
  refine ok_iast C dX7_putsPiece_41 (fun s9 _ => ?_)
  exact ok_vreturn C dX7_putsPiece_42
theorem ctX7_putsPiece {l : Launch} (hl : l.stackTraces = false) {D : va_G} {dA : Nat → ClassId} {B0 : Nat} (a0 : Nat) (x1 : Int32) (x2 : Int32) : Ct l D dA B0 yX7_putsPiece (.code yX7_putsPiece cX7_putsPiece 3 (none) :: ax_ALL) 2 83 [.ref a0, .int x1, .int x2] (fX7_putsPiece a0 x1 x2) :=
  Ct.of hl (by decide +kernel) (Nat.le_of_ble_eq_true rfl) fun Γ C _ _ _ _ e5 e6 e7 T hin => oX7_putsPiece C T e5 ⟨e6, e7⟩ hin a0 x1 x2 _
/-! ChaseLockerModel.takesQuoin(I)V -/
def fX7_takesQuoin (a0 : Nat) (x1 : Int32) (s0 : AS) : Option AR :=
  cV s0 a0 11 (fX7_hasQuoin a0 x1 s0) (qI (fun v1 s2 =>
  if v1 = 0 then (
    some (.inl none, s2))
  else (
    cV s2 a0 11 (fX7_puts a0 x1 2 ((-1)) s2) (qV (fun s3 =>
    cV s3 a0 11 (fX7_puts a0 x1 3 0 s3) (qV (fun s4 =>
    gR s4 a0 11 12 (fun q5 =>
    aI s4 q5 100 0 (fun v6 =>
    uI s4 q5 0 (v6 + 1) (fun s7 =>
    some (.inl none, s7)))))))))))
set_option maxHeartbeats 4000000 in
theorem oX7_takesQuoin {Γ : CX} (C : OKC Γ cX7_takesQuoin RX7 none) (T : ∀ z ∈ (cx_c Γ).exceptionTable.toList, False) (hn : cx_nL Γ = 2) (hR : cx_fr Γ = 3 ∧ cx_lo Γ = 103) (hin : (cx_meth Γ).name = yX7_takesQuoin.name) : ∀ (a0 : Nat) (x1 : Int32) (s0 : AS), OK Γ 0 [(0, .ref a0), (1, .int x1)] [] (fX7_takesQuoin a0 x1 s0) s0 := by
  intro a0 x1 s0
  unfold fX7_takesQuoin
  refine ok_aload_n C 0 dX7_takesQuoin_0 rfl ?_
  refine ok_iload_n C 1 dX7_takesQuoin_1 rfl ?_
  refine ok_callV C T [.int x1] (F := fX7_hasQuoin a0 x1) (ctX7_hasQuoin (C.2.2.2.2.2.2.2.2.1) a0 x1) vlX7_238 viX7_hasQuoin rfl rfl (by decide) rfl (by rw [hR.1, hR.2]; decide) (Nat.le_of_ble_eq_true rfl) dX7_takesQuoin_2 (ok_qI fun v1 s2 => ?_)
  refine ok_if_eq C 32 dX7_takesQuoin_5 (by decide) ?_ ?_
  · exact ok_vreturn C dX7_takesQuoin_32
  · refine ok_aload_n C 0 dX7_takesQuoin_8 rfl ?_
    refine ok_iload_n C 1 dX7_takesQuoin_9 rfl ?_
    refine ok_iconst C (v := 2) dX7_takesQuoin_10 (by decide) ?_
    refine ok_iconst C (v := (-1)) dX7_takesQuoin_11 (by decide) ?_
    refine ok_callV C T [.int x1, .int 2, .int ((-1))] (F := fX7_puts a0 x1 2 ((-1))) (ctX7_puts (C.2.2.2.2.2.2.2.2.1) a0 x1 2 ((-1))) vlX7_178 viX7_puts rfl rfl (by decide) rfl (by rw [hR.1, hR.2]; decide) (Nat.le_of_ble_eq_true rfl) dX7_takesQuoin_12 (ok_qV fun s3 => ?_)
    refine ok_aload_n C 0 dX7_takesQuoin_15 rfl ?_
    refine ok_iload_n C 1 dX7_takesQuoin_16 rfl ?_
    refine ok_iconst C (v := 3) dX7_takesQuoin_17 (by decide) ?_
    refine ok_iconst C (v := 0) dX7_takesQuoin_18 (by decide) ?_
    refine ok_callV C T [.int x1, .int 3, .int 0] (F := fX7_puts a0 x1 3 0) (ctX7_puts (C.2.2.2.2.2.2.2.2.1) a0 x1 3 0) vlX7_178 viX7_puts rfl rfl (by decide) rfl (by rw [hR.1, hR.2]; decide) (Nat.le_of_ble_eq_true rfl) dX7_takesQuoin_19 (ok_qV fun s4 => ?_)
    refine ok_aload_n C 0 dX7_takesQuoin_22 rfl ?_
    refine ok_getR C frX7_17_11 dX7_takesQuoin_23 (fun q5 => ?_)
    refine ok_iconst C (v := 0) dX7_takesQuoin_26 (by decide) ?_
    refine ok_dup2 C dX7_takesQuoin_27 rfl rfl ?_
    refine ok_iald C dX7_takesQuoin_28 (fun v6 => ?_)
    refine ok_iconst C (v := 1) dX7_takesQuoin_29 (by decide) ?_
    refine ok_iadd C dX7_takesQuoin_30 ?_
    refine ok_iast C dX7_takesQuoin_31 (fun s7 _ => ?_)
    exact ok_vreturn C dX7_takesQuoin_32
theorem ctX7_takesQuoin {l : Launch} (hl : l.stackTraces = false) {D : va_G} {dA : Nat → ClassId} {B0 : Nat} (a0 : Nat) (x1 : Int32) : Ct l D dA B0 yX7_takesQuoin (.code yX7_takesQuoin cX7_takesQuoin 2 (none) :: ax_ALL) 3 103 [.ref a0, .int x1] (fX7_takesQuoin a0 x1) :=
  Ct.of hl (by decide +kernel) (Nat.le_of_ble_eq_true rfl) fun Γ C _ _ _ _ e5 e6 e7 T hin => oX7_takesQuoin C T e5 ⟨e6, e7⟩ hin a0 x1 _
/-! ChaseLockerModel.empties(I)I -/
def fX7_empties_41  (a0 : Nat) (x1 : Int32) (x2 : Int32) (s0 : AS) : Option AR :=
  cV s0 a0 11 (fX7_puts a0 x1 1 0 s0) (qV (fun s1 =>
  cV s1 a0 11 (fX7_puts a0 x1 4 0 s1) (qV (fun s2 =>
  cV s2 a0 11 (fX7_takesQuoin a0 x1 s2) (qV (fun s3 =>
  some (.inl (some (.int x2)), s3)))))))
def fX7_empties_9  : Nat → Nat → Int32 → Int32 → Int32 → AS → Option AR
  | 0, _, _, _, _, _ => none
  | n + 1, a0, x1, x2, x3, s0 =>
    if x2 ≤ x3 then (
      fX7_empties_41 a0 x1 x2 s0)
    else (
      gR s0 a0 11 12 (fun q1 =>
      cV s0 a0 11 (fX7_of a0 x1 (11 + x3) s0) (qI (fun v2 s3 =>
      aI s3 q1 100 (6 + v2) (fun v4 =>
      uI s3 q1 (6 + v2) (v4 + 1) (fun s5 =>
      lt (x3 + 1) (fun v6 =>
      fX7_empties_9 n a0 x1 x2 v6 s5)))))))
def fX7_empties (a0 : Nat) (x1 : Int32) (s0 : AS) : Option AR :=
  cV s0 a0 11 (fX7_of a0 x1 1 s0) (qI (fun v1 s2 =>
  fX7_empties_9 FU a0 x1 v1 0 s2))
set_option maxHeartbeats 4000000 in
theorem oX7_empties_41 {Γ : CX} (C : OKC Γ cX7_empties RX7 (some (.int))) (T : ∀ z ∈ (cx_c Γ).exceptionTable.toList, False) (hn : cx_nL Γ = 4) (hR : cx_fr Γ = 4 ∧ cx_lo Γ = 124) (hin : (cx_meth Γ).name = yX7_empties.name) : ∀ (a0 : Nat) (x1 : Int32) (x2 : Int32) (s0 : AS), OK Γ 41 [(0, .ref a0), (1, .int x1), (2, .int x2)] [] (fX7_empties_41  a0 x1 x2 s0) s0 := by
  intro a0 x1 x2 s0
  unfold fX7_empties_41
  refine ok_aload_n C 0 dX7_empties_41 rfl ?_
  refine ok_iload_n C 1 dX7_empties_42 rfl ?_
  refine ok_iconst C (v := 1) dX7_empties_43 (by decide) ?_
  refine ok_iconst C (v := 0) dX7_empties_44 (by decide) ?_
  refine ok_callV C T [.int x1, .int 1, .int 0] (F := fX7_puts a0 x1 1 0) (ctX7_puts (C.2.2.2.2.2.2.2.2.1) a0 x1 1 0) vlX7_178 viX7_puts rfl rfl (by decide) rfl (by rw [hR.1, hR.2]; decide) (Nat.le_of_ble_eq_true rfl) dX7_empties_45 (ok_qV fun s1 => ?_)
  refine ok_aload_n C 0 dX7_empties_48 rfl ?_
  refine ok_iload_n C 1 dX7_empties_49 rfl ?_
  refine ok_iconst C (v := 4) dX7_empties_50 (by decide) ?_
  refine ok_iconst C (v := 0) dX7_empties_51 (by decide) ?_
  refine ok_callV C T [.int x1, .int 4, .int 0] (F := fX7_puts a0 x1 4 0) (ctX7_puts (C.2.2.2.2.2.2.2.2.1) a0 x1 4 0) vlX7_178 viX7_puts rfl rfl (by decide) rfl (by rw [hR.1, hR.2]; decide) (Nat.le_of_ble_eq_true rfl) dX7_empties_52 (ok_qV fun s2 => ?_)
  refine ok_aload_n C 0 dX7_empties_55 rfl ?_
  refine ok_iload_n C 1 dX7_empties_56 rfl ?_
  refine ok_callV C T [.int x1] (F := fX7_takesQuoin a0 x1) (ctX7_takesQuoin (C.2.2.2.2.2.2.2.2.1) a0 x1) vlX7_254 viX7_takesQuoin rfl rfl (by decide) rfl (by rw [hR.1, hR.2]; decide) (Nat.le_of_ble_eq_true rfl) dX7_empties_57 (ok_qV fun s3 => ?_)
  refine ok_iload_n C 2 dX7_empties_60 rfl ?_
  exact ok_ireturn C dX7_empties_61
set_option maxHeartbeats 4000000 in
theorem oX7_empties_9 {Γ : CX} (C : OKC Γ cX7_empties RX7 (some (.int))) (T : ∀ z ∈ (cx_c Γ).exceptionTable.toList, False) (hn : cx_nL Γ = 4) (hR : cx_fr Γ = 4 ∧ cx_lo Γ = 124) (hin : (cx_meth Γ).name = yX7_empties.name) : ∀ (n : Nat) (a0 : Nat) (x1 : Int32) (x2 : Int32) (x3 : Int32) (s0 : AS), OK Γ 9 [(0, .ref a0), (1, .int x1), (2, .int x2), (3, .int x3)] [] (fX7_empties_9 n a0 x1 x2 x3 s0) s0 := by
  intro n
  induction n with
  | zero => intro _ _ _ _ s0; exact OK.none
  | succ n ih =>
    intro a0 x1 x2 x3 s0
    rw [fX7_empties_9]
    refine ok_iload_n C 3 dX7_empties_9 rfl ?_
    refine ok_iload_n C 2 dX7_empties_10 rfl ?_
    refine ok_icmp_ge C 41 dX7_empties_11 (by decide) ?_ ?_
    · refine OK.sub (lv' := [(0, .ref a0), (1, .int x1), (2, .int x2)]) [0, 1, 2] rfl ?_
      exact oX7_empties_41 C T hn hR hin a0 x1 x2 s0
    · refine ok_aload_n C 0 dX7_empties_14 rfl ?_
      refine ok_getR C frX7_17_11 dX7_empties_15 (fun q1 => ?_)
      refine ok_bipush C (v := 6) dX7_empties_18 (by decide) ?_
      refine ok_aload_n C 0 dX7_empties_20 rfl ?_
      refine ok_iload_n C 1 dX7_empties_21 rfl ?_
      refine ok_bipush C (v := 11) dX7_empties_22 (by decide) ?_
      refine ok_iload_n C 3 dX7_empties_24 rfl ?_
      refine ok_iadd C dX7_empties_25 ?_
      refine ok_callV C T [.int x1, .int (11 + x3)] (F := fX7_of a0 x1 (11 + x3)) (ctX7_of (C.2.2.2.2.2.2.2.2.1) a0 x1 (11 + x3)) vlX7_189 viX7_of rfl rfl (by decide) rfl (by rw [hR.1, hR.2]; decide) (Nat.le_of_ble_eq_true rfl) dX7_empties_26 (ok_qI fun v2 s3 => ?_)
      refine ok_iadd C dX7_empties_29 ?_
      refine ok_dup2 C dX7_empties_30 rfl rfl ?_
      refine ok_iald C dX7_empties_31 (fun v4 => ?_)
      refine ok_iconst C (v := 1) dX7_empties_32 (by decide) ?_
      refine ok_iadd C dX7_empties_33 ?_
      refine ok_iast C dX7_empties_34 (fun s5 _ => ?_)
      refine ok_iincL C 3 (c := 1) (fun v6 => [(3, .int v6), (0, .ref a0), (1, .int x1), (2, .int x2)]) dX7_empties_35 rfl rfl (by rw [hn]; decide) (fun _ => rfl) (fun v6 => ?_)
      refine ok_goto C 9 dX7_empties_38 (by decide) ?_
      refine OK.sub (lv' := [(0, .ref a0), (1, .int x1), (2, .int x2), (3, .int v6)]) [1, 2, 3, 0] rfl ?_
      exact ih a0 x1 x2 v6 s5
set_option maxHeartbeats 4000000 in
theorem oX7_empties {Γ : CX} (C : OKC Γ cX7_empties RX7 (some (.int))) (T : ∀ z ∈ (cx_c Γ).exceptionTable.toList, False) (hn : cx_nL Γ = 4) (hR : cx_fr Γ = 4 ∧ cx_lo Γ = 124) (hin : (cx_meth Γ).name = yX7_empties.name) : ∀ (a0 : Nat) (x1 : Int32) (s0 : AS), OK Γ 0 [(0, .ref a0), (1, .int x1)] [] (fX7_empties a0 x1 s0) s0 := by
  intro a0 x1 s0
  unfold fX7_empties
  refine ok_aload_n C 0 dX7_empties_0 rfl ?_
  refine ok_iload_n C 1 dX7_empties_1 rfl ?_
  refine ok_iconst C (v := 1) dX7_empties_2 (by decide) ?_
  refine ok_callV C T [.int x1, .int 1] (F := fX7_of a0 x1 1) (ctX7_of (C.2.2.2.2.2.2.2.2.1) a0 x1 1) vlX7_189 viX7_of rfl rfl (by decide) rfl (by rw [hR.1, hR.2]; decide) (Nat.le_of_ble_eq_true rfl) dX7_empties_3 (ok_qI fun v1 s2 => ?_)
  refine ok_istore_n C (i := 2) [(2, .int v1), (0, .ref a0), (1, .int x1)] dX7_empties_6 rfl (by rw [hn]; decide) rfl ?_
  refine ok_iconst C (v := 0) dX7_empties_7 (by decide) ?_
  refine ok_istore_n C (i := 3) [(3, .int 0), (2, .int v1), (0, .ref a0), (1, .int x1)] dX7_empties_8 rfl (by rw [hn]; decide) rfl ?_
  refine OK.sub (lv' := [(0, .ref a0), (1, .int x1), (2, .int v1), (3, .int 0)]) [2, 3, 1, 0] rfl ?_
  exact oX7_empties_9 C T hn hR hin FU a0 x1 v1 0 s2
theorem ctX7_empties {l : Launch} (hl : l.stackTraces = false) {D : va_G} {dA : Nat → ClassId} {B0 : Nat} (a0 : Nat) (x1 : Int32) : Ct l D dA B0 yX7_empties (.code yX7_empties cX7_empties 4 (some (.int)) :: ax_ALL) 4 124 [.ref a0, .int x1] (fX7_empties a0 x1) :=
  Ct.of hl (by decide +kernel) (Nat.le_of_ble_eq_true rfl) fun Γ C _ _ _ _ e5 e6 e7 T hin => oX7_empties C T e5 ⟨e6, e7⟩ hin a0 x1 _
/-! ChaseLockerModel.looseness(I)I -/
def fX7_looseness (a0 : Nat) (x1 : Int32) (s0 : AS) : Option AR :=
  cV s0 a0 11 (fX7_of a0 x1 4 s0) (qI (fun v1 s2 =>
  cV s2 a0 11 (fX7_gap a0 x1 s2) (qI (fun v3 s4 =>
  some (.inl (some (.int (v1 + (10 * v3)))), s4)))))
set_option maxHeartbeats 4000000 in
theorem oX7_looseness {Γ : CX} (C : OKC Γ cX7_looseness RX7 (some (.int))) (T : ∀ z ∈ (cx_c Γ).exceptionTable.toList, False) (hn : cx_nL Γ = 2) (hR : cx_fr Γ = 6 ∧ cx_lo Γ = 168) (hin : (cx_meth Γ).name = yX7_looseness.name) : ∀ (a0 : Nat) (x1 : Int32) (s0 : AS), OK Γ 0 [(0, .ref a0), (1, .int x1)] [] (fX7_looseness a0 x1 s0) s0 := by
  intro a0 x1 s0
  unfold fX7_looseness
  refine ok_aload_n C 0 dX7_looseness_0 rfl ?_
  refine ok_iload_n C 1 dX7_looseness_1 rfl ?_
  refine ok_iconst C (v := 4) dX7_looseness_2 (by decide) ?_
  refine ok_callV C T [.int x1, .int 4] (F := fX7_of a0 x1 4) (ctX7_of (C.2.2.2.2.2.2.2.2.1) a0 x1 4) vlX7_189 viX7_of rfl rfl (by decide) rfl (by rw [hR.1, hR.2]; decide) (Nat.le_of_ble_eq_true rfl) dX7_looseness_3 (ok_qI fun v1 s2 => ?_)
  refine ok_bipush C (v := 10) dX7_looseness_6 (by decide) ?_
  refine ok_aload_n C 0 dX7_looseness_8 rfl ?_
  refine ok_iload_n C 1 dX7_looseness_9 rfl ?_
  refine ok_callV C T [.int x1] (F := fX7_gap a0 x1) (ctX7_gap (C.2.2.2.2.2.2.2.2.1) a0 x1) vlX7_192 viX7_gap rfl rfl (by decide) rfl (by rw [hR.1, hR.2]; decide) (Nat.le_of_ble_eq_true rfl) dX7_looseness_10 (ok_qI fun v3 s4 => ?_)
  refine ok_imul C dX7_looseness_13 ?_
  refine ok_iadd C dX7_looseness_14 ?_
  exact ok_ireturn C dX7_looseness_15
theorem ctX7_looseness {l : Launch} (hl : l.stackTraces = false) {D : va_G} {dA : Nat → ClassId} {B0 : Nat} (a0 : Nat) (x1 : Int32) : Ct l D dA B0 yX7_looseness (.code yX7_looseness cX7_looseness 2 (some (.int)) :: ax_ALL) 6 168 [.ref a0, .int x1] (fX7_looseness a0 x1) :=
  Ct.of hl (by decide +kernel) (Nat.le_of_ble_eq_true rfl) fun Γ C _ _ _ _ e5 e6 e7 T hin => oX7_looseness C T e5 ⟨e6, e7⟩ hin a0 x1 _
/-! ChaseLockerModel.looksAtRows()I -/
def fX7_looksAtRows_77 (r4 : Nat → Int32 → Int32 → AS → Option AR) (a0 : Nat) (x1 : Int32) (x2 : Int32) (s0 : AS) : Option AR :=
  lt (x2 + 1) (fun v1 =>
  r4 a0 x1 v1 s0)
def fX7_looksAtRows_4  : Nat → Nat → Int32 → Int32 → AS → Option AR
  | 0, _, _, _, _ => none
  | n + 1, a0, x1, x2, s0 =>
    gI s0 a0 11 3 (fun v1 =>
    if v1 ≤ x2 then (
      some (.inl (some (.int x1)), s0))
    else (
      cV s0 a0 11 (fX7_of a0 x2 0 s0) (qI (fun v2 s3 =>
      if v2 ≤ 0 then (
        fX7_looksAtRows_77 (fX7_looksAtRows_4 n) a0 x1 x2 s3)
      else (
        cV s3 a0 11 (fX7_looseness a0 x2 s3) (qI (fun v4 s5 =>
        gI s5 a0 11 8 (fun v6 =>
        if v4 ≤ v6 then (
          fX7_looksAtRows_77 (fX7_looksAtRows_4 n) a0 x1 x2 s5)
        else (
          lt (x1 ||| (1 <<< (x2 &&& 31))) (fun v7 =>
          gR s5 a0 11 12 (fun q8 =>
          aI s5 q8 100 4 (fun v9 =>
          cV s5 a0 11 (fX7_of a0 x2 0 s5) (qI (fun v10 s11 =>
          uI s11 q8 4 (v9 + v10) (fun s12 =>
          gR s12 a0 11 12 (fun q13 =>
          aI s12 q13 100 5 (fun v14 =>
          uI s12 q13 5 (v14 + 1) (fun s15 =>
          cV s15 a0 11 (fX7_puts a0 x2 0 0 s15) (qV (fun s16 =>
          cV s16 a0 11 (fX7_empties a0 x2 s16) (qI (fun v17 s18 =>
          fX7_looksAtRows_77 (fX7_looksAtRows_4 n) a0 v7 x2 s18))))))))))))))))))))))
def fX7_looksAtRows (a0 : Nat) (s0 : AS) : Option AR :=
  fX7_looksAtRows_4 FU a0 0 0 s0
set_option maxHeartbeats 4000000 in
theorem oX7_looksAtRows_77 {Γ : CX} (C : OKC Γ cX7_looksAtRows RX7 (some (.int))) (T : ∀ z ∈ (cx_c Γ).exceptionTable.toList, False) (hn : cx_nL Γ = 4) (hR : cx_fr Γ = 7 ∧ cx_lo Γ = 189) (hin : (cx_meth Γ).name = yX7_looksAtRows.name) {r4 : Nat → Int32 → Int32 → AS → Option AR} (h4 : ∀ (a0 : Nat) (x1 : Int32) (x2 : Int32) (s0 : AS), OK Γ 4 [(0, .ref a0), (1, .int x1), (2, .int x2)] [] (r4 a0 x1 x2 s0) s0) : ∀ (a0 : Nat) (x1 : Int32) (x2 : Int32) (s0 : AS), OK Γ 77 [(0, .ref a0), (1, .int x1), (2, .int x2)] [] (fX7_looksAtRows_77 r4 a0 x1 x2 s0) s0 := by
  intro a0 x1 x2 s0
  unfold fX7_looksAtRows_77
  refine ok_iincL C 2 (c := 1) (fun v1 => [(2, .int v1), (0, .ref a0), (1, .int x1)]) dX7_looksAtRows_77 rfl rfl (by rw [hn]; decide) (fun _ => rfl) (fun v1 => ?_)
  refine ok_goto C 4 dX7_looksAtRows_80 (by decide) ?_
  refine OK.sub (lv' := [(0, .ref a0), (1, .int x1), (2, .int v1)]) [1, 2, 0] rfl ?_
  exact h4 a0 x1 v1 s0
set_option maxHeartbeats 4000000 in
theorem oX7_looksAtRows_4 {Γ : CX} (C : OKC Γ cX7_looksAtRows RX7 (some (.int))) (T : ∀ z ∈ (cx_c Γ).exceptionTable.toList, False) (hn : cx_nL Γ = 4) (hR : cx_fr Γ = 7 ∧ cx_lo Γ = 189) (hin : (cx_meth Γ).name = yX7_looksAtRows.name) : ∀ (n : Nat) (a0 : Nat) (x1 : Int32) (x2 : Int32) (s0 : AS), OK Γ 4 [(0, .ref a0), (1, .int x1), (2, .int x2)] [] (fX7_looksAtRows_4 n a0 x1 x2 s0) s0 := by
  intro n
  induction n with
  | zero => intro _ _ _ s0; exact OK.none
  | succ n ih =>
    intro a0 x1 x2 s0
    rw [fX7_looksAtRows_4]
    refine ok_iload_n C 2 dX7_looksAtRows_4 rfl ?_
    refine ok_aload_n C 0 dX7_looksAtRows_5 rfl ?_
    refine ok_getI C frX7_154_11 dX7_looksAtRows_6 (fun v1 => ?_)
    refine ok_icmp_ge C 83 dX7_looksAtRows_9 (by decide) ?_ ?_
    · refine ok_iload_n C 1 dX7_looksAtRows_83 rfl ?_
      exact ok_ireturn C dX7_looksAtRows_84
    · refine ok_aload_n C 0 dX7_looksAtRows_12 rfl ?_
      refine ok_iload_n C 2 dX7_looksAtRows_13 rfl ?_
      refine ok_iconst C (v := 0) dX7_looksAtRows_14 (by decide) ?_
      refine ok_callV C T [.int x2, .int 0] (F := fX7_of a0 x2 0) (ctX7_of (C.2.2.2.2.2.2.2.2.1) a0 x2 0) vlX7_189 viX7_of rfl rfl (by decide) rfl (by rw [hR.1, hR.2]; decide) (Nat.le_of_ble_eq_true rfl) dX7_looksAtRows_15 (ok_qI fun v2 s3 => ?_)
      refine ok_if_le C 77 dX7_looksAtRows_18 (by decide) ?_ ?_
      · exact oX7_looksAtRows_77 C T hn hR hin ih a0 x1 x2 s3
      · refine ok_aload_n C 0 dX7_looksAtRows_21 rfl ?_
        refine ok_iload_n C 2 dX7_looksAtRows_22 rfl ?_
        refine ok_callV C T [.int x2] (F := fX7_looseness a0 x2) (ctX7_looseness (C.2.2.2.2.2.2.2.2.1) a0 x2) vlX7_257 viX7_looseness rfl rfl (by decide) rfl (by rw [hR.1, hR.2]; decide) (Nat.le_of_ble_eq_true rfl) dX7_looksAtRows_23 (ok_qI fun v4 s5 => ?_)
        refine ok_aload_n C 0 dX7_looksAtRows_26 rfl ?_
        refine ok_getI C frX7_169_11 dX7_looksAtRows_27 (fun v6 => ?_)
        refine ok_icmp_le C 77 dX7_looksAtRows_30 (by decide) ?_ ?_
        · exact oX7_looksAtRows_77 C T hn hR hin ih a0 x1 x2 s5
        · refine ok_iload_n C 1 dX7_looksAtRows_33 rfl ?_
          refine ok_iconst C (v := 1) dX7_looksAtRows_34 (by decide) ?_
          refine ok_iload_n C 2 dX7_looksAtRows_35 rfl ?_
          refine ok_ishl C dX7_looksAtRows_36 ?_
          refine ok_ior C dX7_looksAtRows_37 ?_
          refine ok_lt (fun v7 => ?_)
          refine ok_istore_n C (i := 1) [(1, .int v7), (0, .ref a0), (2, .int x2)] dX7_looksAtRows_38 rfl (by rw [hn]; decide) rfl ?_
          refine ok_aload_n C 1 dX7_looksAtRows_39 rfl ?_
          refine ok_getR C frX7_17_11 dX7_looksAtRows_40 (fun q8 => ?_)
          refine ok_iconst C (v := 4) dX7_looksAtRows_43 (by decide) ?_
          refine ok_dup2 C dX7_looksAtRows_44 rfl rfl ?_
          refine ok_iald C dX7_looksAtRows_45 (fun v9 => ?_)
          refine ok_aload_n C 1 dX7_looksAtRows_46 rfl ?_
          refine ok_iload_n C 2 dX7_looksAtRows_47 rfl ?_
          refine ok_iconst C (v := 0) dX7_looksAtRows_48 (by decide) ?_
          refine ok_callV C T [.int x2, .int 0] (F := fX7_of a0 x2 0) (ctX7_of (C.2.2.2.2.2.2.2.2.1) a0 x2 0) vlX7_189 viX7_of rfl rfl (by decide) rfl (by rw [hR.1, hR.2]; decide) (Nat.le_of_ble_eq_true rfl) dX7_looksAtRows_49 (ok_qI fun v10 s11 => ?_)
          refine ok_iadd C dX7_looksAtRows_52 ?_
          refine ok_iast C dX7_looksAtRows_53 (fun s12 _ => ?_)
          refine ok_aload_n C 1 dX7_looksAtRows_54 rfl ?_
          refine ok_getR C frX7_17_11 dX7_looksAtRows_55 (fun q13 => ?_)
          refine ok_iconst C (v := 5) dX7_looksAtRows_58 (by decide) ?_
          refine ok_dup2 C dX7_looksAtRows_59 rfl rfl ?_
          refine ok_iald C dX7_looksAtRows_60 (fun v14 => ?_)
          refine ok_iconst C (v := 1) dX7_looksAtRows_61 (by decide) ?_
          refine ok_iadd C dX7_looksAtRows_62 ?_
          refine ok_iast C dX7_looksAtRows_63 (fun s15 _ => ?_)
          refine ok_aload_n C 1 dX7_looksAtRows_64 rfl ?_
          refine ok_iload_n C 2 dX7_looksAtRows_65 rfl ?_
          refine ok_iconst C (v := 0) dX7_looksAtRows_66 (by decide) ?_
          refine ok_iconst C (v := 0) dX7_looksAtRows_67 (by decide) ?_
          refine ok_callV C T [.int x2, .int 0, .int 0] (F := fX7_puts a0 x2 0 0) (ctX7_puts (C.2.2.2.2.2.2.2.2.1) a0 x2 0 0) vlX7_178 viX7_puts rfl rfl (by decide) rfl (by rw [hR.1, hR.2]; decide) (Nat.le_of_ble_eq_true rfl) dX7_looksAtRows_68 (ok_qV fun s16 => ?_)
          refine ok_aload_n C 1 dX7_looksAtRows_71 rfl ?_
          refine ok_iload_n C 2 dX7_looksAtRows_72 rfl ?_
          refine ok_callV C T [.int x2] (F := fX7_empties a0 x2) (ctX7_empties (C.2.2.2.2.2.2.2.2.1) a0 x2) vlX7_260 viX7_empties rfl rfl (by decide) rfl (by rw [hR.1, hR.2]; decide) (Nat.le_of_ble_eq_true rfl) dX7_looksAtRows_73 (ok_qI fun v17 s18 => ?_)
          refine ok_istore_n C (i := 3) [(3, .int v17), (1, .int v7), (0, .ref a0), (2, .int x2)] dX7_looksAtRows_76 rfl (by rw [hn]; decide) rfl ?_
          refine OK.sub (lv' := [(0, .ref a0), (1, .int v7), (2, .int x2)]) [2, 1, 3] rfl ?_
          exact oX7_looksAtRows_77 C T hn hR hin ih a0 v7 x2 s18
set_option maxHeartbeats 4000000 in
theorem oX7_looksAtRows {Γ : CX} (C : OKC Γ cX7_looksAtRows RX7 (some (.int))) (T : ∀ z ∈ (cx_c Γ).exceptionTable.toList, False) (hn : cx_nL Γ = 4) (hR : cx_fr Γ = 7 ∧ cx_lo Γ = 189) (hin : (cx_meth Γ).name = yX7_looksAtRows.name) : ∀ (a0 : Nat) (s0 : AS), OK Γ 0 [(0, .ref a0)] [] (fX7_looksAtRows a0 s0) s0 := by
  intro a0 s0
  unfold fX7_looksAtRows
  refine ok_iconst C (v := 0) dX7_looksAtRows_0 (by decide) ?_
  refine ok_istore_n C (i := 1) [(1, .int 0), (0, .ref a0)] dX7_looksAtRows_1 rfl (by rw [hn]; decide) rfl ?_
  refine ok_iconst C (v := 0) dX7_looksAtRows_2 (by decide) ?_
  refine ok_istore_n C (i := 2) [(2, .int 0), (1, .int 0), (0, .ref a0)] dX7_looksAtRows_3 rfl (by rw [hn]; decide) rfl ?_
  refine OK.sub (lv' := [(0, .ref a0), (1, .int 0), (2, .int 0)]) [2, 1, 0] rfl ?_
  exact oX7_looksAtRows_4 C T hn hR hin FU a0 0 0 s0
theorem ctX7_looksAtRows {l : Launch} (hl : l.stackTraces = false) {D : va_G} {dA : Nat → ClassId} {B0 : Nat} (a0 : Nat) : Ct l D dA B0 yX7_looksAtRows (.code yX7_looksAtRows cX7_looksAtRows 4 (some (.int)) :: ax_ALL) 7 189 [.ref a0] (fX7_looksAtRows a0) :=
  Ct.of hl (by decide +kernel) (Nat.le_of_ble_eq_true rfl) fun Γ C _ _ _ _ e5 e6 e7 T hin => oX7_looksAtRows C T e5 ⟨e6, e7⟩ hin a0 _
/-! ChaseLockerModel.areGood()Z -/
def fX7_areGood_49 (r4 : Nat → Int32 → Int32 → AS → Option AR) (a0 : Nat) (x2 : Int32) (t0 : Int32) (s0 : AS) : Option AR :=
  lt (x2 + 1) (fun v1 =>
  r4 a0 t0 v1 s0)
def fX7_areGood_48 (r4 : Nat → Int32 → Int32 → AS → Option AR) (a0 : Nat) (x2 : Int32) (s0 : AS) : Option AR :=
  fX7_areGood_49 r4 a0 x2 0 s0
def fX7_areGood_44 (r4 : Nat → Int32 → Int32 → AS → Option AR) (a0 : Nat) (x2 : Int32) (s0 : AS) : Option AR :=
  fX7_areGood_49 r4 a0 x2 1 s0
def fX7_areGood_4  : Nat → Nat → Int32 → Int32 → AS → Option AR
  | 0, _, _, _, _ => none
  | n + 1, a0, x1, x2, s0 =>
    gI s0 a0 11 3 (fun v1 =>
    if v1 ≤ x2 then (
      rZ x1 s0)
    else (
      if x1 = 0 then (
        fX7_areGood_48 (fX7_areGood_4 n) a0 x2 s0)
      else (
        cV s0 a0 11 (fX7_of a0 x2 0 s0) (qI (fun v2 s3 =>
        if v2 = 0 then (
          fX7_areGood_44 (fX7_areGood_4 n) a0 x2 s3)
        else (
          cV s3 a0 11 (fX7_gap a0 x2 s3) (qI (fun v4 s5 =>
          if v4 = 0 then (
            cV s5 a0 11 (fX7_of a0 x2 4 s5) (qI (fun v6 s7 =>
            if (10 : Int32) ≤ v6 then (
              fX7_areGood_48 (fX7_areGood_4 n) a0 x2 s7)
            else (
              fX7_areGood_44 (fX7_areGood_4 n) a0 x2 s7))))
          else (
            fX7_areGood_48 (fX7_areGood_4 n) a0 x2 s5)))))))))
def fX7_areGood (a0 : Nat) (s0 : AS) : Option AR :=
  fX7_areGood_4 FU a0 1 0 s0
set_option maxHeartbeats 4000000 in
theorem oX7_areGood_49 {Γ : CX} (C : OKC Γ cX7_areGood RX7 (some (.boolean))) (T : ∀ z ∈ (cx_c Γ).exceptionTable.toList, False) (hn : cx_nL Γ = 3) (hR : cx_fr Γ = 6 ∧ cx_lo Γ = 168) (hin : (cx_meth Γ).name = yX7_areGood.name) {r4 : Nat → Int32 → Int32 → AS → Option AR} (h4 : ∀ (a0 : Nat) (x1 : Int32) (x2 : Int32) (s0 : AS), OK Γ 4 [(0, .ref a0), (1, .int x1), (2, .int x2)] [] (r4 a0 x1 x2 s0) s0) : ∀ (a0 : Nat) (x2 : Int32) (t0 : Int32) (s0 : AS), OK Γ 49 [(0, .ref a0), (2, .int x2)] [.int t0] (fX7_areGood_49 r4 a0 x2 t0 s0) s0 := by
  intro a0 x2 t0 s0
  unfold fX7_areGood_49
  refine ok_istore_n C (i := 1) [(1, .int t0), (0, .ref a0), (2, .int x2)] dX7_areGood_49 rfl (by rw [hn]; decide) rfl ?_
  refine ok_iincL C 2 (c := 1) (fun v1 => [(2, .int v1), (1, .int t0), (0, .ref a0)]) dX7_areGood_50 rfl rfl (by rw [hn]; decide) (fun _ => rfl) (fun v1 => ?_)
  refine ok_goto C 4 dX7_areGood_53 (by decide) ?_
  refine OK.sub (lv' := [(0, .ref a0), (1, .int t0), (2, .int v1)]) [2, 1, 0] rfl ?_
  exact h4 a0 t0 v1 s0
set_option maxHeartbeats 4000000 in
theorem oX7_areGood_48 {Γ : CX} (C : OKC Γ cX7_areGood RX7 (some (.boolean))) (T : ∀ z ∈ (cx_c Γ).exceptionTable.toList, False) (hn : cx_nL Γ = 3) (hR : cx_fr Γ = 6 ∧ cx_lo Γ = 168) (hin : (cx_meth Γ).name = yX7_areGood.name) {r4 : Nat → Int32 → Int32 → AS → Option AR} (h4 : ∀ (a0 : Nat) (x1 : Int32) (x2 : Int32) (s0 : AS), OK Γ 4 [(0, .ref a0), (1, .int x1), (2, .int x2)] [] (r4 a0 x1 x2 s0) s0) : ∀ (a0 : Nat) (x2 : Int32) (s0 : AS), OK Γ 48 [(0, .ref a0), (2, .int x2)] [] (fX7_areGood_48 r4 a0 x2 s0) s0 := by
  intro a0 x2 s0
  unfold fX7_areGood_48
  refine ok_iconst C (v := 0) dX7_areGood_48 (by decide) ?_
  exact oX7_areGood_49 C T hn hR hin h4 a0 x2 0 s0
set_option maxHeartbeats 4000000 in
theorem oX7_areGood_44 {Γ : CX} (C : OKC Γ cX7_areGood RX7 (some (.boolean))) (T : ∀ z ∈ (cx_c Γ).exceptionTable.toList, False) (hn : cx_nL Γ = 3) (hR : cx_fr Γ = 6 ∧ cx_lo Γ = 168) (hin : (cx_meth Γ).name = yX7_areGood.name) {r4 : Nat → Int32 → Int32 → AS → Option AR} (h4 : ∀ (a0 : Nat) (x1 : Int32) (x2 : Int32) (s0 : AS), OK Γ 4 [(0, .ref a0), (1, .int x1), (2, .int x2)] [] (r4 a0 x1 x2 s0) s0) : ∀ (a0 : Nat) (x2 : Int32) (s0 : AS), OK Γ 44 [(0, .ref a0), (2, .int x2)] [] (fX7_areGood_44 r4 a0 x2 s0) s0 := by
  intro a0 x2 s0
  unfold fX7_areGood_44
  refine ok_iconst C (v := 1) dX7_areGood_44 (by decide) ?_
  refine ok_goto C 49 dX7_areGood_45 (by decide) ?_
  exact oX7_areGood_49 C T hn hR hin h4 a0 x2 1 s0
set_option maxHeartbeats 4000000 in
theorem oX7_areGood_4 {Γ : CX} (C : OKC Γ cX7_areGood RX7 (some (.boolean))) (T : ∀ z ∈ (cx_c Γ).exceptionTable.toList, False) (hn : cx_nL Γ = 3) (hR : cx_fr Γ = 6 ∧ cx_lo Γ = 168) (hin : (cx_meth Γ).name = yX7_areGood.name) : ∀ (n : Nat) (a0 : Nat) (x1 : Int32) (x2 : Int32) (s0 : AS), OK Γ 4 [(0, .ref a0), (1, .int x1), (2, .int x2)] [] (fX7_areGood_4 n a0 x1 x2 s0) s0 := by
  intro n
  induction n with
  | zero => intro _ _ _ s0; exact OK.none
  | succ n ih =>
    intro a0 x1 x2 s0
    rw [fX7_areGood_4]
    refine ok_iload_n C 2 dX7_areGood_4 rfl ?_
    refine ok_aload_n C 0 dX7_areGood_5 rfl ?_
    refine ok_getI C frX7_154_11 dX7_areGood_6 (fun v1 => ?_)
    refine ok_icmp_ge C 56 dX7_areGood_9 (by decide) ?_ ?_
    · refine ok_iload_n C 1 dX7_areGood_56 rfl ?_
      exact ok_zreturn C dX7_areGood_57
    · refine ok_iload_n C 1 dX7_areGood_12 rfl ?_
      refine ok_if_eq C 48 dX7_areGood_13 (by decide) ?_ ?_
      · refine OK.sub (lv' := [(0, .ref a0), (2, .int x2)]) [0, 2] rfl ?_
        exact oX7_areGood_48 C T hn hR hin ih a0 x2 s0
      · refine ok_aload_n C 0 dX7_areGood_16 rfl ?_
        refine ok_iload_n C 2 dX7_areGood_17 rfl ?_
        refine ok_iconst C (v := 0) dX7_areGood_18 (by decide) ?_
        refine ok_callV C T [.int x2, .int 0] (F := fX7_of a0 x2 0) (ctX7_of (C.2.2.2.2.2.2.2.2.1) a0 x2 0) vlX7_189 viX7_of rfl rfl (by decide) rfl (by rw [hR.1, hR.2]; decide) (Nat.le_of_ble_eq_true rfl) dX7_areGood_19 (ok_qI fun v2 s3 => ?_)
        refine ok_if_eq C 44 dX7_areGood_22 (by decide) ?_ ?_
        · refine OK.sub (lv' := [(0, .ref a0), (2, .int x2)]) [0, 2] rfl ?_
          exact oX7_areGood_44 C T hn hR hin ih a0 x2 s3
        · refine ok_aload_n C 0 dX7_areGood_25 rfl ?_
          refine ok_iload_n C 2 dX7_areGood_26 rfl ?_
          refine ok_callV C T [.int x2] (F := fX7_gap a0 x2) (ctX7_gap (C.2.2.2.2.2.2.2.2.1) a0 x2) vlX7_192 viX7_gap rfl rfl (by decide) rfl (by rw [hR.1, hR.2]; decide) (Nat.le_of_ble_eq_true rfl) dX7_areGood_27 (ok_qI fun v4 s5 => ?_)
          refine ok_if_ne C 48 dX7_areGood_30 (by decide) ?_ ?_
          · refine OK.sub (lv' := [(0, .ref a0), (2, .int x2)]) [0, 2] rfl ?_
            exact oX7_areGood_48 C T hn hR hin ih a0 x2 s5
          · refine ok_aload_n C 0 dX7_areGood_33 rfl ?_
            refine ok_iload_n C 2 dX7_areGood_34 rfl ?_
            refine ok_iconst C (v := 4) dX7_areGood_35 (by decide) ?_
            refine ok_callV C T [.int x2, .int 4] (F := fX7_of a0 x2 4) (ctX7_of (C.2.2.2.2.2.2.2.2.1) a0 x2 4) vlX7_189 viX7_of rfl rfl (by decide) rfl (by rw [hR.1, hR.2]; decide) (Nat.le_of_ble_eq_true rfl) dX7_areGood_36 (ok_qI fun v6 s7 => ?_)
            refine ok_bipush C (v := 10) dX7_areGood_39 (by decide) ?_
            refine ok_icmp_ge C 48 dX7_areGood_41 (by decide) ?_ ?_
            · refine OK.sub (lv' := [(0, .ref a0), (2, .int x2)]) [0, 2] rfl ?_
              exact oX7_areGood_48 C T hn hR hin ih a0 x2 s7
            · refine OK.sub (lv' := [(0, .ref a0), (2, .int x2)]) [0, 2] rfl ?_
              exact oX7_areGood_44 C T hn hR hin ih a0 x2 s7
set_option maxHeartbeats 4000000 in
theorem oX7_areGood {Γ : CX} (C : OKC Γ cX7_areGood RX7 (some (.boolean))) (T : ∀ z ∈ (cx_c Γ).exceptionTable.toList, False) (hn : cx_nL Γ = 3) (hR : cx_fr Γ = 6 ∧ cx_lo Γ = 168) (hin : (cx_meth Γ).name = yX7_areGood.name) : ∀ (a0 : Nat) (s0 : AS), OK Γ 0 [(0, .ref a0)] [] (fX7_areGood a0 s0) s0 := by
  intro a0 s0
  unfold fX7_areGood
  refine ok_iconst C (v := 1) dX7_areGood_0 (by decide) ?_
  refine ok_istore_n C (i := 1) [(1, .int 1), (0, .ref a0)] dX7_areGood_1 rfl (by rw [hn]; decide) rfl ?_
  refine ok_iconst C (v := 0) dX7_areGood_2 (by decide) ?_
  refine ok_istore_n C (i := 2) [(2, .int 0), (1, .int 1), (0, .ref a0)] dX7_areGood_3 rfl (by rw [hn]; decide) rfl ?_
  refine OK.sub (lv' := [(0, .ref a0), (1, .int 1), (2, .int 0)]) [2, 1, 0] rfl ?_
  exact oX7_areGood_4 C T hn hR hin FU a0 1 0 s0
theorem ctX7_areGood {l : Launch} (hl : l.stackTraces = false) {D : va_G} {dA : Nat → ClassId} {B0 : Nat} (a0 : Nat) : Ct l D dA B0 yX7_areGood (.code yX7_areGood cX7_areGood 3 (some (.boolean)) :: ax_ALL) 6 168 [.ref a0] (fX7_areGood a0) :=
  Ct.of hl (by decide +kernel) (Nat.le_of_ble_eq_true rfl) fun Γ C _ _ _ _ e5 e6 e7 T hin => oX7_areGood C T e5 ⟨e6, e7⟩ hin a0 _
/-! ChaseLockerModel.prints()I -/
def fX7_prints_78  (x1 : Int32) (t0 : Nat) (t1 : Int32) (t2 : Int32) (t3 : Int32) (s0 : AS) : Option AR :=
  cS s0 (fX7_flag t3 s0) (qI (fun v1 s2 =>
  uI s2 t0 t1 (t2 + v1) (fun s3 =>
  some (.inl (some (.int x1)), s3))))
def fX7_prints_77  (x1 : Int32) (t0 : Nat) (t1 : Int32) (t2 : Int32) (s0 : AS) : Option AR :=
  fX7_prints_78 x1 t0 t1 t2 0 s0
def fX7_prints_40  (a0 : Nat) (s0 : AS) : Option AR :=
  cV s0 a0 11 (fX7_looksAtRows a0 s0) (qI (fun v1 s2 =>
  gR s2 a0 11 12 (fun q3 =>
  aI s2 q3 100 1 (fun v4 =>
  uI s2 q3 1 (v4 + 1) (fun s5 =>
  gR s5 a0 11 12 (fun q6 =>
  aI s5 q6 100 2 (fun v7 =>
  if v1 = 0 then (
    cV s5 a0 11 (fX7_areGood a0 s5) (qI (fun v8 s9 =>
    if v8 = 0 then (
      fX7_prints_77 v1 q6 2 v7 s9)
    else (
      fX7_prints_78 v1 q6 2 v7 1 s9))))
  else (
    fX7_prints_77 v1 q6 2 v7 s5))))))))
def fX7_prints_2  : Nat → Nat → Int32 → AS → Option AR
  | 0, _, _, _ => none
  | n + 1, a0, x1, s0 =>
    gI s0 a0 11 3 (fun v1 =>
    if v1 ≤ x1 then (
      fX7_prints_40 a0 s0)
    else (
      cV s0 a0 11 (fX7_of a0 x1 4 s0) (qI (fun v2 s3 =>
      gI s3 a0 11 6 (fun v4 =>
      cV s3 a0 11 (fX7_of a0 x1 0 s3) (qI (fun v5 s6 =>
      cV s6 a0 11 (fX7_puts a0 x1 4 (v2 + (v4 * v5)) s6) (qV (fun s7 =>
      lt (x1 + 1) (fun v8 =>
      fX7_prints_2 n a0 v8 s7))))))))))
def fX7_prints (a0 : Nat) (s0 : AS) : Option AR :=
  fX7_prints_2 FU a0 0 s0
set_option maxHeartbeats 4000000 in
theorem oX7_prints_78 {Γ : CX} (C : OKC Γ cX7_prints RX7 (some (.int))) (T : ∀ z ∈ (cx_c Γ).exceptionTable.toList, False) (hn : cx_nL Γ = 2) (hR : cx_fr Γ = 8 ∧ cx_lo Γ = 212) (hin : (cx_meth Γ).name = yX7_prints.name) : ∀ (x1 : Int32) (t0 : Nat) (t1 : Int32) (t2 : Int32) (t3 : Int32) (s0 : AS), OK Γ 78 [(1, .int x1)] [.int t3, .int t2, .int t1, .ref t0] (fX7_prints_78  x1 t0 t1 t2 t3 s0) s0 := by
  intro x1 t0 t1 t2 t3 s0
  unfold fX7_prints_78
  refine ok_callS C T [.int t3] (F := fX7_flag t3) (ctX7_flag (C.2.2.2.2.2.2.2.2.1) t3) vlX7_250 kw_882 rfl (by rw [hR.1, hR.2]; decide) (Nat.le_of_ble_eq_true rfl) dX7_prints_78 (ok_qI fun v1 s2 => ?_)
  refine ok_iadd C dX7_prints_81 ?_
  refine ok_iast C dX7_prints_82 (fun s3 _ => ?_)
  refine ok_iload_n C 0 dX7_prints_83 rfl ?_
  exact ok_ireturn C dX7_prints_84
set_option maxHeartbeats 4000000 in
theorem oX7_prints_77 {Γ : CX} (C : OKC Γ cX7_prints RX7 (some (.int))) (T : ∀ z ∈ (cx_c Γ).exceptionTable.toList, False) (hn : cx_nL Γ = 2) (hR : cx_fr Γ = 8 ∧ cx_lo Γ = 212) (hin : (cx_meth Γ).name = yX7_prints.name) : ∀ (x1 : Int32) (t0 : Nat) (t1 : Int32) (t2 : Int32) (s0 : AS), OK Γ 77 [(1, .int x1)] [.int t2, .int t1, .ref t0] (fX7_prints_77  x1 t0 t1 t2 s0) s0 := by
  intro x1 t0 t1 t2 s0
  unfold fX7_prints_77
  refine ok_iconst C (v := 0) dX7_prints_77 (by decide) ?_
  exact oX7_prints_78 C T hn hR hin x1 t0 t1 t2 0 s0
set_option maxHeartbeats 4000000 in
theorem oX7_prints_40 {Γ : CX} (C : OKC Γ cX7_prints RX7 (some (.int))) (T : ∀ z ∈ (cx_c Γ).exceptionTable.toList, False) (hn : cx_nL Γ = 2) (hR : cx_fr Γ = 8 ∧ cx_lo Γ = 212) (hin : (cx_meth Γ).name = yX7_prints.name) : ∀ (a0 : Nat) (s0 : AS), OK Γ 40 [(0, .ref a0)] [] (fX7_prints_40  a0 s0) s0 := by
  intro a0 s0
  unfold fX7_prints_40
  refine ok_aload_n C 0 dX7_prints_40 rfl ?_
  refine ok_callV C T [] (F := fX7_looksAtRows a0) (ctX7_looksAtRows (C.2.2.2.2.2.2.2.2.1) a0) vlX7_263 viX7_looksAtRows rfl rfl (by decide) rfl (by rw [hR.1, hR.2]; decide) (Nat.le_of_ble_eq_true rfl) dX7_prints_41 (ok_qI fun v1 s2 => ?_)
  refine ok_istore_n C (i := 1) [(1, .int v1), (0, .ref a0)] dX7_prints_44 rfl (by rw [hn]; decide) rfl ?_
  refine ok_aload_n C 1 dX7_prints_45 rfl ?_
  refine ok_getR C frX7_17_11 dX7_prints_46 (fun q3 => ?_)
  refine ok_iconst C (v := 1) dX7_prints_49 (by decide) ?_
  refine ok_dup2 C dX7_prints_50 rfl rfl ?_
  refine ok_iald C dX7_prints_51 (fun v4 => ?_)
  refine ok_iconst C (v := 1) dX7_prints_52 (by decide) ?_
  refine ok_iadd C dX7_prints_53 ?_
  refine ok_iast C dX7_prints_54 (fun s5 _ => ?_)
  refine ok_aload_n C 1 dX7_prints_55 rfl ?_
  refine ok_getR C frX7_17_11 dX7_prints_56 (fun q6 => ?_)
  refine ok_iconst C (v := 2) dX7_prints_59 (by decide) ?_
  refine ok_dup2 C dX7_prints_60 rfl rfl ?_
  refine ok_iald C dX7_prints_61 (fun v7 => ?_)
  refine ok_iload_n C 0 dX7_prints_62 rfl ?_
  refine ok_if_ne C 77 dX7_prints_63 (by decide) ?_ ?_
  · refine OK.sub (lv' := [(1, .int v1)]) [0] rfl ?_
    exact oX7_prints_77 C T hn hR hin v1 q6 2 v7 s5
  · refine ok_aload_n C 1 dX7_prints_66 rfl ?_
    refine ok_callV C T [] (F := fX7_areGood a0) (ctX7_areGood (C.2.2.2.2.2.2.2.2.1) a0) vlX7_266 viX7_areGood rfl rfl (by decide) rfl (by rw [hR.1, hR.2]; decide) (Nat.le_of_ble_eq_true rfl) dX7_prints_67 (ok_qI fun v8 s9 => ?_)
    refine ok_if_eq C 77 dX7_prints_70 (by decide) ?_ ?_
    · refine OK.sub (lv' := [(1, .int v1)]) [0] rfl ?_
      exact oX7_prints_77 C T hn hR hin v1 q6 2 v7 s9
    · refine ok_iconst C (v := 1) dX7_prints_73 (by decide) ?_
      refine ok_goto C 78 dX7_prints_74 (by decide) ?_
      refine OK.sub (lv' := [(1, .int v1)]) [0] rfl ?_
      exact oX7_prints_78 C T hn hR hin v1 q6 2 v7 1 s9
set_option maxHeartbeats 4000000 in
theorem oX7_prints_2 {Γ : CX} (C : OKC Γ cX7_prints RX7 (some (.int))) (T : ∀ z ∈ (cx_c Γ).exceptionTable.toList, False) (hn : cx_nL Γ = 2) (hR : cx_fr Γ = 8 ∧ cx_lo Γ = 212) (hin : (cx_meth Γ).name = yX7_prints.name) : ∀ (n : Nat) (a0 : Nat) (x1 : Int32) (s0 : AS), OK Γ 2 [(0, .ref a0), (1, .int x1)] [] (fX7_prints_2 n a0 x1 s0) s0 := by
  intro n
  induction n with
  | zero => intro _ _ s0; exact OK.none
  | succ n ih =>
    intro a0 x1 s0
    rw [fX7_prints_2]
    refine ok_iload_n C 1 dX7_prints_2 rfl ?_
    refine ok_aload_n C 0 dX7_prints_3 rfl ?_
    refine ok_getI C frX7_154_11 dX7_prints_4 (fun v1 => ?_)
    refine ok_icmp_ge C 40 dX7_prints_7 (by decide) ?_ ?_
    · refine OK.sub (lv' := [(0, .ref a0)]) [0] rfl ?_
      exact oX7_prints_40 C T hn hR hin a0 s0
    · refine ok_aload_n C 0 dX7_prints_10 rfl ?_
      refine ok_iload_n C 1 dX7_prints_11 rfl ?_
      refine ok_iconst C (v := 4) dX7_prints_12 (by decide) ?_
      refine ok_aload_n C 0 dX7_prints_13 rfl ?_
      refine ok_iload_n C 1 dX7_prints_14 rfl ?_
      refine ok_iconst C (v := 4) dX7_prints_15 (by decide) ?_
      refine ok_callV C T [.int x1, .int 4] (F := fX7_of a0 x1 4) (ctX7_of (C.2.2.2.2.2.2.2.2.1) a0 x1 4) vlX7_189 viX7_of rfl rfl (by decide) rfl (by rw [hR.1, hR.2]; decide) (Nat.le_of_ble_eq_true rfl) dX7_prints_16 (ok_qI fun v2 s3 => ?_)
      refine ok_aload_n C 0 dX7_prints_19 rfl ?_
      refine ok_getI C frX7_163_11 dX7_prints_20 (fun v4 => ?_)
      refine ok_aload_n C 0 dX7_prints_23 rfl ?_
      refine ok_iload_n C 1 dX7_prints_24 rfl ?_
      refine ok_iconst C (v := 0) dX7_prints_25 (by decide) ?_
      refine ok_callV C T [.int x1, .int 0] (F := fX7_of a0 x1 0) (ctX7_of (C.2.2.2.2.2.2.2.2.1) a0 x1 0) vlX7_189 viX7_of rfl rfl (by decide) rfl (by rw [hR.1, hR.2]; decide) (Nat.le_of_ble_eq_true rfl) dX7_prints_26 (ok_qI fun v5 s6 => ?_)
      refine ok_imul C dX7_prints_29 ?_
      refine ok_iadd C dX7_prints_30 ?_
      refine ok_callV C T [.int x1, .int 4, .int (v2 + (v4 * v5))] (F := fX7_puts a0 x1 4 (v2 + (v4 * v5))) (ctX7_puts (C.2.2.2.2.2.2.2.2.1) a0 x1 4 (v2 + (v4 * v5))) vlX7_178 viX7_puts rfl rfl (by decide) rfl (by rw [hR.1, hR.2]; decide) (Nat.le_of_ble_eq_true rfl) dX7_prints_31 (ok_qV fun s7 => ?_)
      refine ok_iincL C 1 (c := 1) (fun v8 => [(1, .int v8), (0, .ref a0)]) dX7_prints_34 rfl rfl (by rw [hn]; decide) (fun _ => rfl) (fun v8 => ?_)
      refine ok_goto C 2 dX7_prints_37 (by decide) ?_
      refine OK.sub (lv' := [(0, .ref a0), (1, .int v8)]) [1, 0] rfl ?_
      exact ih a0 v8 s7
set_option maxHeartbeats 4000000 in
theorem oX7_prints {Γ : CX} (C : OKC Γ cX7_prints RX7 (some (.int))) (T : ∀ z ∈ (cx_c Γ).exceptionTable.toList, False) (hn : cx_nL Γ = 2) (hR : cx_fr Γ = 8 ∧ cx_lo Γ = 212) (hin : (cx_meth Γ).name = yX7_prints.name) : ∀ (a0 : Nat) (s0 : AS), OK Γ 0 [(0, .ref a0)] [] (fX7_prints a0 s0) s0 := by
  intro a0 s0
  unfold fX7_prints
  refine ok_iconst C (v := 0) dX7_prints_0 (by decide) ?_
  refine ok_istore_n C (i := 1) [(1, .int 0), (0, .ref a0)] dX7_prints_1 rfl (by rw [hn]; decide) rfl ?_
  refine OK.sub (lv' := [(0, .ref a0), (1, .int 0)]) [1, 0] rfl ?_
  exact oX7_prints_2 C T hn hR hin FU a0 0 s0
theorem ctX7_prints {l : Launch} (hl : l.stackTraces = false) {D : va_G} {dA : Nat → ClassId} {B0 : Nat} (a0 : Nat) : Ct l D dA B0 yX7_prints (.code yX7_prints cX7_prints 2 (some (.int)) :: ax_ALL) 8 212 [.ref a0] (fX7_prints a0) :=
  Ct.of hl (by decide +kernel) (Nat.le_of_ble_eq_true rfl) fun Γ C _ _ _ _ e5 e6 e7 T hin => oX7_prints C T e5 ⟨e6, e7⟩ hin a0 _
/-! ChaseLockerModel.passes()I -/
def fX7_passes_39  (a0 : Nat) (s0 : AS) : Option AR :=
  gR s0 a0 11 12 (fun q1 =>
  aI s0 q1 100 3 (fun v2 =>
  uI s0 q1 3 (v2 + 1) (fun s3 =>
  cV s3 a0 11 (fX7_looksAtRows a0 s3) (qI (fun v4 s5 =>
  some (.inl (some (.int v4)), s5))))))
def fX7_passes_2  : Nat → Nat → Int32 → AS → Option AR
  | 0, _, _, _ => none
  | n + 1, a0, x1, s0 =>
    gI s0 a0 11 3 (fun v1 =>
    if v1 ≤ x1 then (
      fX7_passes_39 a0 s0)
    else (
      cV s0 a0 11 (fX7_of a0 x1 4 s0) (qI (fun v2 s3 =>
      gI s3 a0 11 7 (fun v4 =>
      cV s3 a0 11 (fX7_woodIn a0 x1 s3) (qI (fun v5 s6 =>
      cV s6 a0 11 (fX7_puts a0 x1 4 (v2 + (v4 * v5)) s6) (qV (fun s7 =>
      lt (x1 + 1) (fun v8 =>
      fX7_passes_2 n a0 v8 s7))))))))))
def fX7_passes (a0 : Nat) (s0 : AS) : Option AR :=
  fX7_passes_2 FU a0 0 s0
set_option maxHeartbeats 4000000 in
theorem oX7_passes_39 {Γ : CX} (C : OKC Γ cX7_passes RX7 (some (.int))) (T : ∀ z ∈ (cx_c Γ).exceptionTable.toList, False) (hn : cx_nL Γ = 2) (hR : cx_fr Γ = 8 ∧ cx_lo Γ = 212) (hin : (cx_meth Γ).name = yX7_passes.name) : ∀ (a0 : Nat) (s0 : AS), OK Γ 39 [(0, .ref a0)] [] (fX7_passes_39  a0 s0) s0 := by
  intro a0 s0
  unfold fX7_passes_39
  refine ok_aload_n C 0 dX7_passes_39 rfl ?_
  refine ok_getR C frX7_17_11 dX7_passes_40 (fun q1 => ?_)
  refine ok_iconst C (v := 3) dX7_passes_43 (by decide) ?_
  refine ok_dup2 C dX7_passes_44 rfl rfl ?_
  refine ok_iald C dX7_passes_45 (fun v2 => ?_)
  refine ok_iconst C (v := 1) dX7_passes_46 (by decide) ?_
  refine ok_iadd C dX7_passes_47 ?_
  refine ok_iast C dX7_passes_48 (fun s3 _ => ?_)
  refine ok_aload_n C 0 dX7_passes_49 rfl ?_
  refine ok_callV C T [] (F := fX7_looksAtRows a0) (ctX7_looksAtRows (C.2.2.2.2.2.2.2.2.1) a0) vlX7_263 viX7_looksAtRows rfl rfl (by decide) rfl (by rw [hR.1, hR.2]; decide) (Nat.le_of_ble_eq_true rfl) dX7_passes_50 (ok_qI fun v4 s5 => ?_)
  exact ok_ireturn C dX7_passes_53
set_option maxHeartbeats 4000000 in
theorem oX7_passes_2 {Γ : CX} (C : OKC Γ cX7_passes RX7 (some (.int))) (T : ∀ z ∈ (cx_c Γ).exceptionTable.toList, False) (hn : cx_nL Γ = 2) (hR : cx_fr Γ = 8 ∧ cx_lo Γ = 212) (hin : (cx_meth Γ).name = yX7_passes.name) : ∀ (n : Nat) (a0 : Nat) (x1 : Int32) (s0 : AS), OK Γ 2 [(0, .ref a0), (1, .int x1)] [] (fX7_passes_2 n a0 x1 s0) s0 := by
  intro n
  induction n with
  | zero => intro _ _ s0; exact OK.none
  | succ n ih =>
    intro a0 x1 s0
    rw [fX7_passes_2]
    refine ok_iload_n C 1 dX7_passes_2 rfl ?_
    refine ok_aload_n C 0 dX7_passes_3 rfl ?_
    refine ok_getI C frX7_154_11 dX7_passes_4 (fun v1 => ?_)
    refine ok_icmp_ge C 39 dX7_passes_7 (by decide) ?_ ?_
    · refine OK.sub (lv' := [(0, .ref a0)]) [0] rfl ?_
      exact oX7_passes_39 C T hn hR hin a0 s0
    · refine ok_aload_n C 0 dX7_passes_10 rfl ?_
      refine ok_iload_n C 1 dX7_passes_11 rfl ?_
      refine ok_iconst C (v := 4) dX7_passes_12 (by decide) ?_
      refine ok_aload_n C 0 dX7_passes_13 rfl ?_
      refine ok_iload_n C 1 dX7_passes_14 rfl ?_
      refine ok_iconst C (v := 4) dX7_passes_15 (by decide) ?_
      refine ok_callV C T [.int x1, .int 4] (F := fX7_of a0 x1 4) (ctX7_of (C.2.2.2.2.2.2.2.2.1) a0 x1 4) vlX7_189 viX7_of rfl rfl (by decide) rfl (by rw [hR.1, hR.2]; decide) (Nat.le_of_ble_eq_true rfl) dX7_passes_16 (ok_qI fun v2 s3 => ?_)
      refine ok_aload_n C 0 dX7_passes_19 rfl ?_
      refine ok_getI C frX7_166_11 dX7_passes_20 (fun v4 => ?_)
      refine ok_aload_n C 0 dX7_passes_23 rfl ?_
      refine ok_iload_n C 1 dX7_passes_24 rfl ?_
      refine ok_callV C T [.int x1] (F := fX7_woodIn a0 x1) (ctX7_woodIn (C.2.2.2.2.2.2.2.2.1) a0 x1) vlX7_270 viX7_woodIn rfl rfl (by decide) rfl (by rw [hR.1, hR.2]; decide) (Nat.le_of_ble_eq_true rfl) dX7_passes_25 (ok_qI fun v5 s6 => ?_)
      refine ok_imul C dX7_passes_28 ?_
      refine ok_iadd C dX7_passes_29 ?_
      refine ok_callV C T [.int x1, .int 4, .int (v2 + (v4 * v5))] (F := fX7_puts a0 x1 4 (v2 + (v4 * v5))) (ctX7_puts (C.2.2.2.2.2.2.2.2.1) a0 x1 4 (v2 + (v4 * v5))) vlX7_178 viX7_puts rfl rfl (by decide) rfl (by rw [hR.1, hR.2]; decide) (Nat.le_of_ble_eq_true rfl) dX7_passes_30 (ok_qV fun s7 => ?_)
      refine ok_iincL C 1 (c := 1) (fun v8 => [(1, .int v8), (0, .ref a0)]) dX7_passes_33 rfl rfl (by rw [hn]; decide) (fun _ => rfl) (fun v8 => ?_)
      refine ok_goto C 2 dX7_passes_36 (by decide) ?_
      refine OK.sub (lv' := [(0, .ref a0), (1, .int v8)]) [1, 0] rfl ?_
      exact ih a0 v8 s7
set_option maxHeartbeats 4000000 in
theorem oX7_passes {Γ : CX} (C : OKC Γ cX7_passes RX7 (some (.int))) (T : ∀ z ∈ (cx_c Γ).exceptionTable.toList, False) (hn : cx_nL Γ = 2) (hR : cx_fr Γ = 8 ∧ cx_lo Γ = 212) (hin : (cx_meth Γ).name = yX7_passes.name) : ∀ (a0 : Nat) (s0 : AS), OK Γ 0 [(0, .ref a0)] [] (fX7_passes a0 s0) s0 := by
  intro a0 s0
  unfold fX7_passes
  refine ok_iconst C (v := 0) dX7_passes_0 (by decide) ?_
  refine ok_istore_n C (i := 1) [(1, .int 0), (0, .ref a0)] dX7_passes_1 rfl (by rw [hn]; decide) rfl ?_
  refine OK.sub (lv' := [(0, .ref a0), (1, .int 0)]) [1, 0] rfl ?_
  exact oX7_passes_2 C T hn hR hin FU a0 0 s0
theorem ctX7_passes {l : Launch} (hl : l.stackTraces = false) {D : va_G} {dA : Nat → ClassId} {B0 : Nat} (a0 : Nat) : Ct l D dA B0 yX7_passes (.code yX7_passes cX7_passes 2 (some (.int)) :: ax_ALL) 8 212 [.ref a0] (fX7_passes a0) :=
  Ct.of hl (by decide +kernel) (Nat.le_of_ble_eq_true rfl) fun Γ C _ _ _ _ e5 e6 e7 T hin => oX7_passes C T e5 ⟨e6, e7⟩ hin a0 _
/-! ChaseLockerModel.ones(I)I -/
def fX7_ones_4  : Nat → Int32 → Int32 → Int32 → AS → Option AR
  | 0, _, _, _, _ => none
  | n + 1, x0, x1, x2, s0 =>
    if (8 : Int32) ≤ x2 then (
      some (.inl (some (.int x1)), s0))
    else (
      lt (x1 + ((x0 >>> (x2 &&& 31)) &&& 1)) (fun v1 =>
      lt (x2 + 1) (fun v2 =>
      fX7_ones_4 n x0 v1 v2 s0)))
def fX7_ones (x0 : Int32) (s0 : AS) : Option AR :=
  fX7_ones_4 FU x0 0 0 s0
set_option maxHeartbeats 4000000 in
theorem oX7_ones_4 {Γ : CX} (C : OKC Γ cX7_ones RX7 (some (.int))) (T : ∀ z ∈ (cx_c Γ).exceptionTable.toList, False) (hn : cx_nL Γ = 3) (hR : cx_fr Γ = 1 ∧ cx_lo Γ = 60) (hin : (cx_meth Γ).name = yX7_ones.name) : ∀ (n : Nat) (x0 : Int32) (x1 : Int32) (x2 : Int32) (s0 : AS), OK Γ 4 [(0, .int x0), (1, .int x1), (2, .int x2)] [] (fX7_ones_4 n x0 x1 x2 s0) s0 := by
  intro n
  induction n with
  | zero => intro _ _ _ s0; exact OK.none
  | succ n ih =>
    intro x0 x1 x2 s0
    rw [fX7_ones_4]
    refine ok_iload_n C 2 dX7_ones_4 rfl ?_
    refine ok_bipush C (v := 8) dX7_ones_5 (by decide) ?_
    refine ok_icmp_ge C 24 dX7_ones_7 (by decide) ?_ ?_
    · refine ok_iload_n C 1 dX7_ones_24 rfl ?_
      exact ok_ireturn C dX7_ones_25
    · refine ok_iload_n C 1 dX7_ones_10 rfl ?_
      refine ok_iload_n C 0 dX7_ones_11 rfl ?_
      refine ok_iload_n C 2 dX7_ones_12 rfl ?_
      refine ok_ishr C dX7_ones_13 ?_
      refine ok_iconst C (v := 1) dX7_ones_14 (by decide) ?_
      refine ok_iand C dX7_ones_15 ?_
      refine ok_iadd C dX7_ones_16 ?_
      refine ok_lt (fun v1 => ?_)
      refine ok_istore_n C (i := 1) [(1, .int v1), (0, .int x0), (2, .int x2)] dX7_ones_17 rfl (by rw [hn]; decide) rfl ?_
      refine ok_iincL C 2 (c := 1) (fun v2 => [(2, .int v2), (1, .int v1), (0, .int x0)]) dX7_ones_18 rfl rfl (by rw [hn]; decide) (fun _ => rfl) (fun v2 => ?_)
      refine ok_goto C 4 dX7_ones_21 (by decide) ?_
      refine OK.sub (lv' := [(0, .int x0), (1, .int v1), (2, .int v2)]) [2, 1, 0] rfl ?_
      exact ih x0 v1 v2 s0
set_option maxHeartbeats 4000000 in
theorem oX7_ones {Γ : CX} (C : OKC Γ cX7_ones RX7 (some (.int))) (T : ∀ z ∈ (cx_c Γ).exceptionTable.toList, False) (hn : cx_nL Γ = 3) (hR : cx_fr Γ = 1 ∧ cx_lo Γ = 60) (hin : (cx_meth Γ).name = yX7_ones.name) : ∀ (x0 : Int32) (s0 : AS), OK Γ 0 [(0, .int x0)] [] (fX7_ones x0 s0) s0 := by
  intro x0 s0
  unfold fX7_ones
  refine ok_iconst C (v := 0) dX7_ones_0 (by decide) ?_
  refine ok_istore_n C (i := 1) [(1, .int 0), (0, .int x0)] dX7_ones_1 rfl (by rw [hn]; decide) rfl ?_
  refine ok_iconst C (v := 0) dX7_ones_2 (by decide) ?_
  refine ok_istore_n C (i := 2) [(2, .int 0), (1, .int 0), (0, .int x0)] dX7_ones_3 rfl (by rw [hn]; decide) rfl ?_
  refine OK.sub (lv' := [(0, .int x0), (1, .int 0), (2, .int 0)]) [2, 1, 0] rfl ?_
  exact oX7_ones_4 C T hn hR hin FU x0 0 0 s0
theorem ctX7_ones {l : Launch} (hl : l.stackTraces = false) {D : va_G} {dA : Nat → ClassId} {B0 : Nat} (x0 : Int32) : Ct l D dA B0 yX7_ones (.code yX7_ones cX7_ones 3 (some (.int)) :: ax_ALL) 1 60 [.int x0] (fX7_ones x0) :=
  Ct.of hl (by decide +kernel) (Nat.le_of_ble_eq_true rfl) fun Γ C _ _ _ _ e5 e6 e7 T hin => oX7_ones C T e5 ⟨e6, e7⟩ hin x0 _
/-! ChaseLockerModel.isAhead(II)Z -/
def fX7_isAhead (a0 : Nat) (x1 : Int32) (x2 : Int32) (s0 : AS) : Option AR :=
  gR s0 a0 11 11 (fun q1 =>
  aI s0 q1 100 x1 (fun v2 =>
  gR s0 a0 11 11 (fun q3 =>
  aI s0 q3 100 x2 (fun v4 =>
  if v4 < v2 then (
    rZ 1 s0)
  else (
    gR s0 a0 11 11 (fun q5 =>
    aI s0 q5 100 x1 (fun v6 =>
    gR s0 a0 11 11 (fun q7 =>
    aI s0 q7 100 x2 (fun v8 =>
    if v6 = v8 then (
      gR s0 a0 11 10 (fun q9 =>
      aI s0 q9 101 x1 (fun v10 =>
      if v10 = 0 then (
        rZ 0 s0)
      else (
        gR s0 a0 11 10 (fun q11 =>
        aI s0 q11 101 x2 (fun v12 =>
        if v12 = 0 then (
          rZ 1 s0)
        else (
          rZ 0 s0)))))))
    else (
      rZ 0 s0))))))))))
set_option maxHeartbeats 4000000 in
theorem oX7_isAhead {Γ : CX} (C : OKC Γ cX7_isAhead RX7 (some (.boolean))) (T : ∀ z ∈ (cx_c Γ).exceptionTable.toList, False) (hn : cx_nL Γ = 3) (hR : cx_fr Γ = 1 ∧ cx_lo Γ = 60) (hin : (cx_meth Γ).name = yX7_isAhead.name) : ∀ (a0 : Nat) (x1 : Int32) (x2 : Int32) (s0 : AS), OK Γ 0 [(0, .ref a0), (1, .int x1), (2, .int x2)] [] (fX7_isAhead a0 x1 x2 s0) s0 := by
  intro a0 x1 x2 s0
  unfold fX7_isAhead
  refine ok_aload_n C 0 dX7_isAhead_0 rfl ?_
  refine ok_getR C frX7_13_11 dX7_isAhead_1 (fun q1 => ?_)
  refine ok_iload_n C 1 dX7_isAhead_4 rfl ?_
  refine ok_iald C dX7_isAhead_5 (fun v2 => ?_)
  refine ok_aload_n C 0 dX7_isAhead_6 rfl ?_
  refine ok_getR C frX7_13_11 dX7_isAhead_7 (fun q3 => ?_)
  refine ok_iload_n C 2 dX7_isAhead_10 rfl ?_
  refine ok_iald C dX7_isAhead_11 (fun v4 => ?_)
  refine ok_icmp_gt C 48 dX7_isAhead_12 (by decide) ?_ ?_
  · refine ok_iconst C (v := 1) dX7_isAhead_48 (by decide) ?_
    refine ok_goto C 53 dX7_isAhead_49 (by decide) ?_
    exact ok_zreturn C dX7_isAhead_53
  · refine ok_aload_n C 0 dX7_isAhead_15 rfl ?_
    refine ok_getR C frX7_13_11 dX7_isAhead_16 (fun q5 => ?_)
    refine ok_iload_n C 1 dX7_isAhead_19 rfl ?_
    refine ok_iald C dX7_isAhead_20 (fun v6 => ?_)
    refine ok_aload_n C 0 dX7_isAhead_21 rfl ?_
    refine ok_getR C frX7_13_11 dX7_isAhead_22 (fun q7 => ?_)
    refine ok_iload_n C 2 dX7_isAhead_25 rfl ?_
    refine ok_iald C dX7_isAhead_26 (fun v8 => ?_)
    refine ok_icmp_ne C 52 dX7_isAhead_27 (by decide) ?_ ?_
    · refine ok_iconst C (v := 0) dX7_isAhead_52 (by decide) ?_
      exact ok_zreturn C dX7_isAhead_53
    · refine ok_aload_n C 0 dX7_isAhead_30 rfl ?_
      refine ok_getR C frX7_7_11 dX7_isAhead_31 (fun q9 => ?_)
      refine ok_iload_n C 1 dX7_isAhead_34 rfl ?_
      refine ok_zald C dX7_isAhead_35 (fun v10 => ?_)
      refine ok_if_eq C 52 dX7_isAhead_36 (by decide) ?_ ?_
      · refine ok_iconst C (v := 0) dX7_isAhead_52 (by decide) ?_
        exact ok_zreturn C dX7_isAhead_53
      · refine ok_aload_n C 0 dX7_isAhead_39 rfl ?_
        refine ok_getR C frX7_7_11 dX7_isAhead_40 (fun q11 => ?_)
        refine ok_iload_n C 2 dX7_isAhead_43 rfl ?_
        refine ok_zald C dX7_isAhead_44 (fun v12 => ?_)
        refine ok_if_ne C 52 dX7_isAhead_45 (by decide) ?_ ?_
        · refine ok_iconst C (v := 0) dX7_isAhead_52 (by decide) ?_
          exact ok_zreturn C dX7_isAhead_53
        · refine ok_iconst C (v := 1) dX7_isAhead_48 (by decide) ?_
          refine ok_goto C 53 dX7_isAhead_49 (by decide) ?_
          exact ok_zreturn C dX7_isAhead_53
theorem ctX7_isAhead {l : Launch} (hl : l.stackTraces = false) {D : va_G} {dA : Nat → ClassId} {B0 : Nat} (a0 : Nat) (x1 : Int32) (x2 : Int32) : Ct l D dA B0 yX7_isAhead (.code yX7_isAhead cX7_isAhead 3 (some (.boolean)) :: ax_ALL) 1 60 [.ref a0, .int x1, .int x2] (fX7_isAhead a0 x1 x2) :=
  Ct.of hl (by decide +kernel) (Nat.le_of_ble_eq_true rfl) fun Γ C _ _ _ _ e5 e6 e7 T hin => oX7_isAhead C T e5 ⟨e6, e7⟩ hin a0 x1 x2 _
/-! ChaseLockerModel.laysOrder()V -/
def fX7_laysOrder_53 (r2 : Nat → Int32 → AS → Option AR) (a0 : Nat) (x1 : Int32) (x2 : Int32) (s0 : AS) : Option AR :=
  gR s0 a0 11 33 (fun q1 =>
  uI s0 q1 x2 x1 (fun s2 =>
  lt (x1 + 1) (fun v3 =>
  r2 a0 v3 s2)))
def fX7_laysOrder_42 (r2 : Nat → Int32 → AS → Option AR) (r14 : Nat → Int32 → Int32 → Int32 → AS → Option AR) (a0 : Nat) (x1 : Int32) (x3 : Int32) (t0 : Int32) (t1 : Int32) (s0 : AS) : Option AR :=
  cS s0 (fX7_flag t1 s0) (qI (fun v1 s2 =>
  lt (t0 + v1) (fun v3 =>
  lt (x3 + 1) (fun v4 =>
  r14 a0 x1 v3 v4 s2))))
def fX7_laysOrder_41 (r2 : Nat → Int32 → AS → Option AR) (r14 : Nat → Int32 → Int32 → Int32 → AS → Option AR) (a0 : Nat) (x1 : Int32) (x3 : Int32) (t0 : Int32) (s0 : AS) : Option AR :=
  fX7_laysOrder_42 r2 r14 a0 x1 x3 t0 0 s0
def fX7_laysOrder_14 (r2 : Nat → Int32 → AS → Option AR) : Nat → Nat → Int32 → Int32 → Int32 → AS → Option AR
  | 0, _, _, _, _, _ => none
  | n + 1, a0, x1, x2, x3, s0 =>
    gI s0 a0 11 9 (fun v1 =>
    if v1 ≤ x3 then (
      fX7_laysOrder_53 r2 a0 x1 x2 s0)
    else (
      if x3 = x1 then (
        fX7_laysOrder_41 r2 (fX7_laysOrder_14 r2 n) a0 x1 x3 x2 s0)
      else (
        cV s0 a0 11 (fX7_isAhead a0 x3 x1 s0) (qI (fun v2 s3 =>
        if v2 = 0 then (
          fX7_laysOrder_41 r2 (fX7_laysOrder_14 r2 n) a0 x1 x3 x2 s3)
        else (
          fX7_laysOrder_42 r2 (fX7_laysOrder_14 r2 n) a0 x1 x3 x2 1 s3))))))
def fX7_laysOrder_2  : Nat → Nat → Int32 → AS → Option AR
  | 0, _, _, _ => none
  | n + 1, a0, x1, s0 =>
    gI s0 a0 11 9 (fun v1 =>
    if v1 ≤ x1 then (
      some (.inl none, s0))
    else (
      fX7_laysOrder_14 (fX7_laysOrder_2 n) FU a0 x1 0 0 s0))
def fX7_laysOrder (a0 : Nat) (s0 : AS) : Option AR :=
  fX7_laysOrder_2 FU a0 0 s0
set_option maxHeartbeats 4000000 in
theorem oX7_laysOrder_53 {Γ : CX} (C : OKC Γ cX7_laysOrder RX7 none) (T : ∀ z ∈ (cx_c Γ).exceptionTable.toList, False) (hn : cx_nL Γ = 4) (hR : cx_fr Γ = 2 ∧ cx_lo Γ = 82) (hin : (cx_meth Γ).name = yX7_laysOrder.name) {r2 : Nat → Int32 → AS → Option AR} (h2 : ∀ (a0 : Nat) (x1 : Int32) (s0 : AS), OK Γ 2 [(0, .ref a0), (1, .int x1)] [] (r2 a0 x1 s0) s0) : ∀ (a0 : Nat) (x1 : Int32) (x2 : Int32) (s0 : AS), OK Γ 53 [(0, .ref a0), (1, .int x1), (2, .int x2)] [] (fX7_laysOrder_53 r2 a0 x1 x2 s0) s0 := by
  intro a0 x1 x2 s0
  unfold fX7_laysOrder_53
  refine ok_aload_n C 0 dX7_laysOrder_53 rfl ?_
  refine ok_getR C frX7_49_11 dX7_laysOrder_54 (fun q1 => ?_)
  refine ok_iload_n C 2 dX7_laysOrder_57 rfl ?_
  refine ok_iload_n C 1 dX7_laysOrder_58 rfl ?_
  refine ok_iast C dX7_laysOrder_59 (fun s2 _ => ?_)
  refine ok_iincL C 1 (c := 1) (fun v3 => [(1, .int v3), (0, .ref a0), (2, .int x2)]) dX7_laysOrder_60 rfl rfl (by rw [hn]; decide) (fun _ => rfl) (fun v3 => ?_)
  refine ok_goto C 2 dX7_laysOrder_63 (by decide) ?_
  refine OK.sub (lv' := [(0, .ref a0), (1, .int v3)]) [1, 0] rfl ?_
  exact h2 a0 v3 s2
set_option maxHeartbeats 4000000 in
theorem oX7_laysOrder_42 {Γ : CX} (C : OKC Γ cX7_laysOrder RX7 none) (T : ∀ z ∈ (cx_c Γ).exceptionTable.toList, False) (hn : cx_nL Γ = 4) (hR : cx_fr Γ = 2 ∧ cx_lo Γ = 82) (hin : (cx_meth Γ).name = yX7_laysOrder.name) {r2 : Nat → Int32 → AS → Option AR} {r14 : Nat → Int32 → Int32 → Int32 → AS → Option AR} (h2 : ∀ (a0 : Nat) (x1 : Int32) (s0 : AS), OK Γ 2 [(0, .ref a0), (1, .int x1)] [] (r2 a0 x1 s0) s0) (h14 : ∀ (a0 : Nat) (x1 : Int32) (x2 : Int32) (x3 : Int32) (s0 : AS), OK Γ 14 [(0, .ref a0), (1, .int x1), (2, .int x2), (3, .int x3)] [] (r14 a0 x1 x2 x3 s0) s0) : ∀ (a0 : Nat) (x1 : Int32) (x3 : Int32) (t0 : Int32) (t1 : Int32) (s0 : AS), OK Γ 42 [(0, .ref a0), (1, .int x1), (3, .int x3)] [.int t1, .int t0] (fX7_laysOrder_42 r2 r14 a0 x1 x3 t0 t1 s0) s0 := by
  intro a0 x1 x3 t0 t1 s0
  unfold fX7_laysOrder_42
  refine ok_callS C T [.int t1] (F := fX7_flag t1) (ctX7_flag (C.2.2.2.2.2.2.2.2.1) t1) vlX7_250 kw_882 rfl (by rw [hR.1, hR.2]; decide) (Nat.le_of_ble_eq_true rfl) dX7_laysOrder_42 (ok_qI fun v1 s2 => ?_)
  refine ok_iadd C dX7_laysOrder_45 ?_
  refine ok_lt (fun v3 => ?_)
  refine ok_istore_n C (i := 2) [(2, .int v3), (0, .ref a0), (1, .int x1), (3, .int x3)] dX7_laysOrder_46 rfl (by rw [hn]; decide) rfl ?_
  refine ok_iincL C 3 (c := 1) (fun v4 => [(3, .int v4), (2, .int v3), (0, .ref a0), (1, .int x1)]) dX7_laysOrder_47 rfl rfl (by rw [hn]; decide) (fun _ => rfl) (fun v4 => ?_)
  refine ok_goto C 14 dX7_laysOrder_50 (by decide) ?_
  refine OK.sub (lv' := [(0, .ref a0), (1, .int x1), (2, .int v3), (3, .int v4)]) [2, 3, 1, 0] rfl ?_
  exact h14 a0 x1 v3 v4 s2
set_option maxHeartbeats 4000000 in
theorem oX7_laysOrder_41 {Γ : CX} (C : OKC Γ cX7_laysOrder RX7 none) (T : ∀ z ∈ (cx_c Γ).exceptionTable.toList, False) (hn : cx_nL Γ = 4) (hR : cx_fr Γ = 2 ∧ cx_lo Γ = 82) (hin : (cx_meth Γ).name = yX7_laysOrder.name) {r2 : Nat → Int32 → AS → Option AR} {r14 : Nat → Int32 → Int32 → Int32 → AS → Option AR} (h2 : ∀ (a0 : Nat) (x1 : Int32) (s0 : AS), OK Γ 2 [(0, .ref a0), (1, .int x1)] [] (r2 a0 x1 s0) s0) (h14 : ∀ (a0 : Nat) (x1 : Int32) (x2 : Int32) (x3 : Int32) (s0 : AS), OK Γ 14 [(0, .ref a0), (1, .int x1), (2, .int x2), (3, .int x3)] [] (r14 a0 x1 x2 x3 s0) s0) : ∀ (a0 : Nat) (x1 : Int32) (x3 : Int32) (t0 : Int32) (s0 : AS), OK Γ 41 [(0, .ref a0), (1, .int x1), (3, .int x3)] [.int t0] (fX7_laysOrder_41 r2 r14 a0 x1 x3 t0 s0) s0 := by
  intro a0 x1 x3 t0 s0
  unfold fX7_laysOrder_41
  refine ok_iconst C (v := 0) dX7_laysOrder_41 (by decide) ?_
  exact oX7_laysOrder_42 C T hn hR hin h2 h14 a0 x1 x3 t0 0 s0
set_option maxHeartbeats 4000000 in
theorem oX7_laysOrder_14 {Γ : CX} (C : OKC Γ cX7_laysOrder RX7 none) (T : ∀ z ∈ (cx_c Γ).exceptionTable.toList, False) (hn : cx_nL Γ = 4) (hR : cx_fr Γ = 2 ∧ cx_lo Γ = 82) (hin : (cx_meth Γ).name = yX7_laysOrder.name) {r2 : Nat → Int32 → AS → Option AR} (h2 : ∀ (a0 : Nat) (x1 : Int32) (s0 : AS), OK Γ 2 [(0, .ref a0), (1, .int x1)] [] (r2 a0 x1 s0) s0) : ∀ (n : Nat) (a0 : Nat) (x1 : Int32) (x2 : Int32) (x3 : Int32) (s0 : AS), OK Γ 14 [(0, .ref a0), (1, .int x1), (2, .int x2), (3, .int x3)] [] (fX7_laysOrder_14 r2 n a0 x1 x2 x3 s0) s0 := by
  intro n
  induction n with
  | zero => intro _ _ _ _ s0; exact OK.none
  | succ n ih =>
    intro a0 x1 x2 x3 s0
    rw [fX7_laysOrder_14]
    refine ok_iload_n C 3 dX7_laysOrder_14 rfl ?_
    refine ok_aload_n C 0 dX7_laysOrder_15 rfl ?_
    refine ok_getI C frX7_172_11 dX7_laysOrder_16 (fun v1 => ?_)
    refine ok_icmp_ge C 53 dX7_laysOrder_19 (by decide) ?_ ?_
    · refine OK.sub (lv' := [(0, .ref a0), (1, .int x1), (2, .int x2)]) [0, 1, 2] rfl ?_
      exact oX7_laysOrder_53 C T hn hR hin h2 a0 x1 x2 s0
    · refine ok_iload_n C 2 dX7_laysOrder_22 rfl ?_
      refine ok_iload_n C 3 dX7_laysOrder_23 rfl ?_
      refine ok_iload_n C 1 dX7_laysOrder_24 rfl ?_
      refine ok_icmp_eq C 41 dX7_laysOrder_25 (by decide) ?_ ?_
      · refine OK.sub (lv' := [(0, .ref a0), (1, .int x1), (3, .int x3)]) [0, 1, 3] rfl ?_
        exact oX7_laysOrder_41 C T hn hR hin h2 ih a0 x1 x3 x2 s0
      · refine ok_aload_n C 0 dX7_laysOrder_28 rfl ?_
        refine ok_iload_n C 3 dX7_laysOrder_29 rfl ?_
        refine ok_iload_n C 1 dX7_laysOrder_30 rfl ?_
        refine ok_callV C T [.int x3, .int x1] (F := fX7_isAhead a0 x3 x1) (ctX7_isAhead (C.2.2.2.2.2.2.2.2.1) a0 x3 x1) vlX7_273 viX7_isAhead rfl rfl (by decide) rfl (by rw [hR.1, hR.2]; decide) (Nat.le_of_ble_eq_true rfl) dX7_laysOrder_31 (ok_qI fun v2 s3 => ?_)
        refine ok_if_eq C 41 dX7_laysOrder_34 (by decide) ?_ ?_
        · refine OK.sub (lv' := [(0, .ref a0), (1, .int x1), (3, .int x3)]) [0, 1, 3] rfl ?_
          exact oX7_laysOrder_41 C T hn hR hin h2 ih a0 x1 x3 x2 s3
        · refine ok_iconst C (v := 1) dX7_laysOrder_37 (by decide) ?_
          refine ok_goto C 42 dX7_laysOrder_38 (by decide) ?_
          refine OK.sub (lv' := [(0, .ref a0), (1, .int x1), (3, .int x3)]) [0, 1, 3] rfl ?_
          exact oX7_laysOrder_42 C T hn hR hin h2 ih a0 x1 x3 x2 1 s3
set_option maxHeartbeats 4000000 in
theorem oX7_laysOrder_2 {Γ : CX} (C : OKC Γ cX7_laysOrder RX7 none) (T : ∀ z ∈ (cx_c Γ).exceptionTable.toList, False) (hn : cx_nL Γ = 4) (hR : cx_fr Γ = 2 ∧ cx_lo Γ = 82) (hin : (cx_meth Γ).name = yX7_laysOrder.name) : ∀ (n : Nat) (a0 : Nat) (x1 : Int32) (s0 : AS), OK Γ 2 [(0, .ref a0), (1, .int x1)] [] (fX7_laysOrder_2 n a0 x1 s0) s0 := by
  intro n
  induction n with
  | zero => intro _ _ s0; exact OK.none
  | succ n ih =>
    intro a0 x1 s0
    rw [fX7_laysOrder_2]
    refine ok_iload_n C 1 dX7_laysOrder_2 rfl ?_
    refine ok_aload_n C 0 dX7_laysOrder_3 rfl ?_
    refine ok_getI C frX7_172_11 dX7_laysOrder_4 (fun v1 => ?_)
    refine ok_icmp_ge C 66 dX7_laysOrder_7 (by decide) ?_ ?_
    · exact ok_vreturn C dX7_laysOrder_66
    · refine ok_iconst C (v := 0) dX7_laysOrder_10 (by decide) ?_
      refine ok_istore_n C (i := 2) [(2, .int 0), (0, .ref a0), (1, .int x1)] dX7_laysOrder_11 rfl (by rw [hn]; decide) rfl ?_
      refine ok_iconst C (v := 0) dX7_laysOrder_12 (by decide) ?_
      refine ok_istore_n C (i := 3) [(3, .int 0), (2, .int 0), (0, .ref a0), (1, .int x1)] dX7_laysOrder_13 rfl (by rw [hn]; decide) rfl ?_
      refine OK.sub (lv' := [(0, .ref a0), (1, .int x1), (2, .int 0), (3, .int 0)]) [2, 3, 1, 0] rfl ?_
      exact oX7_laysOrder_14 C T hn hR hin ih FU a0 x1 0 0 s0
set_option maxHeartbeats 4000000 in
theorem oX7_laysOrder {Γ : CX} (C : OKC Γ cX7_laysOrder RX7 none) (T : ∀ z ∈ (cx_c Γ).exceptionTable.toList, False) (hn : cx_nL Γ = 4) (hR : cx_fr Γ = 2 ∧ cx_lo Γ = 82) (hin : (cx_meth Γ).name = yX7_laysOrder.name) : ∀ (a0 : Nat) (s0 : AS), OK Γ 0 [(0, .ref a0)] [] (fX7_laysOrder a0 s0) s0 := by
  intro a0 s0
  unfold fX7_laysOrder
  refine ok_iconst C (v := 0) dX7_laysOrder_0 (by decide) ?_
  refine ok_istore_n C (i := 1) [(1, .int 0), (0, .ref a0)] dX7_laysOrder_1 rfl (by rw [hn]; decide) rfl ?_
  refine OK.sub (lv' := [(0, .ref a0), (1, .int 0)]) [1, 0] rfl ?_
  exact oX7_laysOrder_2 C T hn hR hin FU a0 0 s0
theorem ctX7_laysOrder {l : Launch} (hl : l.stackTraces = false) {D : va_G} {dA : Nat → ClassId} {B0 : Nat} (a0 : Nat) : Ct l D dA B0 yX7_laysOrder (.code yX7_laysOrder cX7_laysOrder 4 (none) :: ax_ALL) 2 82 [.ref a0] (fX7_laysOrder a0) :=
  Ct.of hl (by decide +kernel) (Nat.le_of_ble_eq_true rfl) fun Γ C _ _ _ _ e5 e6 e7 T hin => oX7_laysOrder C T e5 ⟨e6, e7⟩ hin a0 _
/-! ChaseLockerModel.leftOf(I)I -/
def fX7_leftOf_22  (t0 : Int32) (t1 : Int32) (s0 : AS) : Option AR :=
  cS s0 (fX7_flag t1 s0) (qI (fun v1 s2 =>
  some (.inl (some (.int (t0 + v1))), s2)))
def fX7_leftOf (a0 : Nat) (x1 : Int32) (s0 : AS) : Option AR :=
  gR s0 a0 11 12 (fun q1 =>
  aI s0 q1 100 (6 + x1) (fun v2 =>
  gI s0 a0 11 37 (fun v3 =>
  if x1 = v3 then (
    fX7_leftOf_22 v2 1 s0)
  else (
    fX7_leftOf_22 v2 0 s0))))
set_option maxHeartbeats 4000000 in
theorem oX7_leftOf_22 {Γ : CX} (C : OKC Γ cX7_leftOf RX7 (some (.int))) (T : ∀ z ∈ (cx_c Γ).exceptionTable.toList, False) (hn : cx_nL Γ = 2) (hR : cx_fr Γ = 2 ∧ cx_lo Γ = 80) (hin : (cx_meth Γ).name = yX7_leftOf.name) : ∀ (t0 : Int32) (t1 : Int32) (s0 : AS), OK Γ 22 [] [.int t1, .int t0] (fX7_leftOf_22  t0 t1 s0) s0 := by
  intro t0 t1 s0
  unfold fX7_leftOf_22
  refine ok_callS C T [.int t1] (F := fX7_flag t1) (ctX7_flag (C.2.2.2.2.2.2.2.2.1) t1) vlX7_250 kw_882 rfl (by rw [hR.1, hR.2]; decide) (Nat.le_of_ble_eq_true rfl) dX7_leftOf_22 (ok_qI fun v1 s2 => ?_)
  refine ok_iadd C dX7_leftOf_25 ?_
  exact ok_ireturn C dX7_leftOf_26
set_option maxHeartbeats 4000000 in
theorem oX7_leftOf {Γ : CX} (C : OKC Γ cX7_leftOf RX7 (some (.int))) (T : ∀ z ∈ (cx_c Γ).exceptionTable.toList, False) (hn : cx_nL Γ = 2) (hR : cx_fr Γ = 2 ∧ cx_lo Γ = 80) (hin : (cx_meth Γ).name = yX7_leftOf.name) : ∀ (a0 : Nat) (x1 : Int32) (s0 : AS), OK Γ 0 [(0, .ref a0), (1, .int x1)] [] (fX7_leftOf a0 x1 s0) s0 := by
  intro a0 x1 s0
  unfold fX7_leftOf
  refine ok_aload_n C 0 dX7_leftOf_0 rfl ?_
  refine ok_getR C frX7_17_11 dX7_leftOf_1 (fun q1 => ?_)
  refine ok_bipush C (v := 6) dX7_leftOf_4 (by decide) ?_
  refine ok_iload_n C 1 dX7_leftOf_6 rfl ?_
  refine ok_iadd C dX7_leftOf_7 ?_
  refine ok_iald C dX7_leftOf_8 (fun v2 => ?_)
  refine ok_iload_n C 1 dX7_leftOf_9 rfl ?_
  refine ok_aload_n C 0 dX7_leftOf_10 rfl ?_
  refine ok_getI C frX7_58_11 dX7_leftOf_11 (fun v3 => ?_)
  refine ok_icmp_ne C 21 dX7_leftOf_14 (by decide) ?_ ?_
  · refine ok_iconst C (v := 0) dX7_leftOf_21 (by decide) ?_
    refine OK.sub (lv' := []) [] rfl ?_
    exact oX7_leftOf_22 C T hn hR hin v2 0 s0
  · refine ok_iconst C (v := 1) dX7_leftOf_17 (by decide) ?_
    refine ok_goto C 22 dX7_leftOf_18 (by decide) ?_
    refine OK.sub (lv' := []) [] rfl ?_
    exact oX7_leftOf_22 C T hn hR hin v2 1 s0
theorem ctX7_leftOf {l : Launch} (hl : l.stackTraces = false) {D : va_G} {dA : Nat → ClassId} {B0 : Nat} (a0 : Nat) (x1 : Int32) : Ct l D dA B0 yX7_leftOf (.code yX7_leftOf cX7_leftOf 2 (some (.int)) :: ax_ALL) 2 80 [.ref a0, .int x1] (fX7_leftOf a0 x1) :=
  Ct.of hl (by decide +kernel) (Nat.le_of_ble_eq_true rfl) fun Γ C _ _ _ _ e5 e6 e7 T hin => oX7_leftOf C T e5 ⟨e6, e7⟩ hin a0 x1 _
/-! ChaseLockerModel.fewestWith(II)I -/
def fX7_fewestWith_15  : Nat → Nat → Int32 → Int32 → Int32 → Int32 → Int32 → AS → Option AR
  | 0, _, _, _, _, _, _, _ => none
  | n + 1, a0, x1, x2, x3, x4, x5, s0 =>
    cV s0 a0 11 (fX7_leftOf a0 x3 s0) (qI (fun v1 s2 =>
    if v1 < x5 then (
      some (.inl (some (.int x4)), s2))
    else (
      gR s2 a0 11 11 (fun q3 =>
      aI s2 q3 100 x3 (fun v4 =>
      if x2 < (x5 * v4) then (
        some (.inl (some (.int x4)), s2))
      else (
        gR s2 a0 11 34 (fun q5 =>
        gR s2 a0 11 11 (fun q6 =>
        aI s2 q6 100 x3 (fun v7 =>
        aI s2 q5 100 (((501 * (x1 + 1)) + x2) - (x5 * v7)) (fun v8 =>
        lt (if (x5 + v8) < x4 then (x5 + v8) else x4) (fun v9 =>
        lt (x5 + 1) (fun v10 =>
        fX7_fewestWith_15 n a0 x1 x2 x3 v9 v10 s2))))))))))))
def fX7_fewestWith (a0 : Nat) (x1 : Int32) (x2 : Int32) (s0 : AS) : Option AR :=
  gR s0 a0 11 33 (fun q1 =>
  aI s0 q1 100 x1 (fun v2 =>
  fX7_fewestWith_15 FU a0 x1 x2 v2 1000000 0 s0))
set_option maxHeartbeats 4000000 in
theorem oX7_fewestWith_15 {Γ : CX} (C : OKC Γ cX7_fewestWith RX7 (some (.int))) (T : ∀ z ∈ (cx_c Γ).exceptionTable.toList, False) (hn : cx_nL Γ = 6) (hR : cx_fr Γ = 3 ∧ cx_lo Γ = 101) (hin : (cx_meth Γ).name = yX7_fewestWith.name) : ∀ (n : Nat) (a0 : Nat) (x1 : Int32) (x2 : Int32) (x3 : Int32) (x4 : Int32) (x5 : Int32) (s0 : AS), OK Γ 15 [(0, .ref a0), (1, .int x1), (2, .int x2), (3, .int x3), (4, .int x4), (5, .int x5)] [] (fX7_fewestWith_15 n a0 x1 x2 x3 x4 x5 s0) s0 := by
  intro n
  induction n with
  | zero => intro _ _ _ _ _ _ s0; exact OK.none
  | succ n ih =>
    intro a0 x1 x2 x3 x4 x5 s0
    rw [fX7_fewestWith_15]
    refine ok_iload C 5 dX7_fewestWith_15 rfl ?_
    refine ok_aload_n C 0 dX7_fewestWith_17 rfl ?_
    refine ok_iload_n C 3 dX7_fewestWith_18 rfl ?_
    refine ok_callV C T [.int x3] (F := fX7_leftOf a0 x3) (ctX7_leftOf (C.2.2.2.2.2.2.2.2.1) a0 x3) vlX7_284 viX7_leftOf rfl rfl (by decide) rfl (by rw [hR.1, hR.2]; decide) (Nat.le_of_ble_eq_true rfl) dX7_fewestWith_19 (ok_qI fun v1 s2 => ?_)
    refine ok_icmp_gt C 78 dX7_fewestWith_22 (by decide) ?_ ?_
    · refine ok_iload C 4 dX7_fewestWith_78 rfl ?_
      exact ok_ireturn C dX7_fewestWith_80
    · refine ok_iload C 5 dX7_fewestWith_25 rfl ?_
      refine ok_aload_n C 0 dX7_fewestWith_27 rfl ?_
      refine ok_getR C frX7_13_11 dX7_fewestWith_28 (fun q3 => ?_)
      refine ok_iload_n C 3 dX7_fewestWith_31 rfl ?_
      refine ok_iald C dX7_fewestWith_32 (fun v4 => ?_)
      refine ok_imul C dX7_fewestWith_33 ?_
      refine ok_iload_n C 2 dX7_fewestWith_34 rfl ?_
      refine ok_icmp_gt C 78 dX7_fewestWith_35 (by decide) ?_ ?_
      · refine ok_iload C 4 dX7_fewestWith_78 rfl ?_
        exact ok_ireturn C dX7_fewestWith_80
      · refine ok_iload C 4 dX7_fewestWith_38 rfl ?_
        refine ok_iload C 5 dX7_fewestWith_40 rfl ?_
        refine ok_aload_n C 0 dX7_fewestWith_42 rfl ?_
        refine ok_getR C frX7_52_11 dX7_fewestWith_43 (fun q5 => ?_)
        refine ok_sipush C (v := 501) dX7_fewestWith_46 (by decide) ?_
        refine ok_iload_n C 1 dX7_fewestWith_49 rfl ?_
        refine ok_iconst C (v := 1) dX7_fewestWith_50 (by decide) ?_
        refine ok_iadd C dX7_fewestWith_51 ?_
        refine ok_imul C dX7_fewestWith_52 ?_
        refine ok_iload_n C 2 dX7_fewestWith_53 rfl ?_
        refine ok_iadd C dX7_fewestWith_54 ?_
        refine ok_iload C 5 dX7_fewestWith_55 rfl ?_
        refine ok_aload_n C 0 dX7_fewestWith_57 rfl ?_
        refine ok_getR C frX7_13_11 dX7_fewestWith_58 (fun q6 => ?_)
        refine ok_iload_n C 3 dX7_fewestWith_61 rfl ?_
        refine ok_iald C dX7_fewestWith_62 (fun v7 => ?_)
        refine ok_imul C dX7_fewestWith_63 ?_
        refine ok_isub C dX7_fewestWith_64 ?_
        refine ok_iald C dX7_fewestWith_65 (fun v8 => ?_)
        refine ok_iadd C dX7_fewestWith_66 ?_
        refine ok_mmin C mlX7_287 (by rw [hR.1]; decide) (by rw [hR.2]; exact Nat.le_of_ble_eq_true rfl) dX7_fewestWith_67 ?_
        refine ok_lt (fun v9 => ?_)
        refine ok_istore C (i := 4) [(4, .int v9), (0, .ref a0), (1, .int x1), (2, .int x2), (3, .int x3), (5, .int x5)] dX7_fewestWith_70 (by rw [hn]; decide) rfl ?_
        refine ok_iincL C 5 (c := 1) (fun v10 => [(5, .int v10), (4, .int v9), (0, .ref a0), (1, .int x1), (2, .int x2), (3, .int x3)]) dX7_fewestWith_72 rfl rfl (by rw [hn]; decide) (fun _ => rfl) (fun v10 => ?_)
        refine ok_goto C 15 dX7_fewestWith_75 (by decide) ?_
        refine OK.sub (lv' := [(0, .ref a0), (1, .int x1), (2, .int x2), (3, .int x3), (4, .int v9), (5, .int v10)]) [2, 3, 4, 5, 1, 0] rfl ?_
        exact ih a0 x1 x2 x3 v9 v10 s2
set_option maxHeartbeats 4000000 in
theorem oX7_fewestWith {Γ : CX} (C : OKC Γ cX7_fewestWith RX7 (some (.int))) (T : ∀ z ∈ (cx_c Γ).exceptionTable.toList, False) (hn : cx_nL Γ = 6) (hR : cx_fr Γ = 3 ∧ cx_lo Γ = 101) (hin : (cx_meth Γ).name = yX7_fewestWith.name) : ∀ (a0 : Nat) (x1 : Int32) (x2 : Int32) (s0 : AS), OK Γ 0 [(0, .ref a0), (1, .int x1), (2, .int x2)] [] (fX7_fewestWith a0 x1 x2 s0) s0 := by
  intro a0 x1 x2 s0
  unfold fX7_fewestWith
  refine ok_aload_n C 0 dX7_fewestWith_0 rfl ?_
  refine ok_getR C frX7_49_11 dX7_fewestWith_1 (fun q1 => ?_)
  refine ok_iload_n C 1 dX7_fewestWith_4 rfl ?_
  refine ok_iald C dX7_fewestWith_5 (fun v2 => ?_)
  refine ok_istore_n C (i := 3) [(3, .int v2), (0, .ref a0), (1, .int x1), (2, .int x2)] dX7_fewestWith_6 rfl (by rw [hn]; decide) rfl ?_
  refine ok_ldcw C (v := 1000000) kw_915 dX7_fewestWith_7 ?_
  refine ok_istore C (i := 4) [(4, .int 1000000), (3, .int v2), (0, .ref a0), (1, .int x1), (2, .int x2)] dX7_fewestWith_10 (by rw [hn]; decide) rfl ?_
  refine ok_iconst C (v := 0) dX7_fewestWith_12 (by decide) ?_
  refine ok_istore C (i := 5) [(5, .int 0), (4, .int 1000000), (3, .int v2), (0, .ref a0), (1, .int x1), (2, .int x2)] dX7_fewestWith_13 (by rw [hn]; decide) rfl ?_
  refine OK.sub (lv' := [(0, .ref a0), (1, .int x1), (2, .int x2), (3, .int v2), (4, .int 1000000), (5, .int 0)]) [3, 4, 5, 2, 1, 0] rfl ?_
  exact oX7_fewestWith_15 C T hn hR hin FU a0 x1 x2 v2 1000000 0 s0
theorem ctX7_fewestWith {l : Launch} (hl : l.stackTraces = false) {D : va_G} {dA : Nat → ClassId} {B0 : Nat} (a0 : Nat) (x1 : Int32) (x2 : Int32) : Ct l D dA B0 yX7_fewestWith (.code yX7_fewestWith cX7_fewestWith 6 (some (.int)) :: ax_ALL) 3 101 [.ref a0, .int x1, .int x2] (fX7_fewestWith a0 x1 x2) :=
  Ct.of hl (by decide +kernel) (Nat.le_of_ble_eq_true rfl) fun Γ C _ _ _ _ e5 e6 e7 T hin => oX7_fewestWith C T e5 ⟨e6, e7⟩ hin a0 x1 x2 _
/-! ChaseLockerModel.laysFewest(I)V -/
def fX7_laysFewest_85 (r50 : Nat → Int32 → Int32 → AS → Option AR) (a0 : Nat) (x1 : Int32) (x2 : Int32) (s0 : AS) : Option AR :=
  lt (x2 + (-1)) (fun v1 =>
  r50 a0 x1 v1 s0)
def fX7_laysFewest_56 (r50 : Nat → Int32 → Int32 → AS → Option AR) : Nat → Nat → Int32 → Int32 → Int32 → AS → Option AR
  | 0, _, _, _, _, _ => none
  | n + 1, a0, x1, x2, x3, s0 =>
    if x1 < x3 then (
      fX7_laysFewest_85 r50 a0 x1 x2 s0)
    else (
      gR s0 a0 11 34 (fun q1 =>
      cV s0 a0 11 (fX7_fewestWith a0 x2 x3 s0) (qI (fun v2 s3 =>
      uI s3 q1 ((501 * x2) + x3) v2 (fun s4 =>
      lt (x3 + 1) (fun v5 =>
      fX7_laysFewest_56 r50 n a0 x1 x2 v5 s4))))))
def fX7_laysFewest_50  : Nat → Nat → Int32 → Int32 → AS → Option AR
  | 0, _, _, _, _ => none
  | n + 1, a0, x1, x2, s0 =>
    if x2 < 0 then (
      some (.inl none, s0))
    else (
      fX7_laysFewest_56 (fX7_laysFewest_50 n) FU a0 x1 x2 0 s0)
def fX7_laysFewest_43  (a0 : Nat) (x1 : Int32) (s0 : AS) : Option AR :=
  gI s0 a0 11 9 (fun v1 =>
  lt (v1 - 1) (fun v2 =>
  fX7_laysFewest_50 FU a0 x1 v2 s0))
def fX7_laysFewest_36 (r6 : Nat → Int32 → Int32 → AS → Option AR) (a0 : Nat) (x1 : Int32) (x2 : Int32) (t0 : Nat) (t1 : Int32) (t2 : Int32) (s0 : AS) : Option AR :=
  uI s0 t0 t1 t2 (fun s1 =>
  lt (x2 + 1) (fun v2 =>
  r6 a0 x1 v2 s1))
def fX7_laysFewest_6  : Nat → Nat → Int32 → Int32 → AS → Option AR
  | 0, _, _, _, _ => none
  | n + 1, a0, x1, x2, s0 =>
    if x1 < x2 then (
      fX7_laysFewest_43 a0 x1 s0)
    else (
      gR s0 a0 11 34 (fun q1 =>
      gI s0 a0 11 9 (fun v2 =>
      if x2 = 0 then (
        fX7_laysFewest_36 (fX7_laysFewest_6 n) a0 x1 x2 q1 ((501 * v2) + x2) 0 s0)
      else (
        fX7_laysFewest_36 (fX7_laysFewest_6 n) a0 x1 x2 q1 ((501 * v2) + x2) 1000000 s0))))
def fX7_laysFewest (a0 : Nat) (x1 : Int32) (s0 : AS) : Option AR :=
  cV s0 a0 11 (fX7_laysOrder a0 s0) (qV (fun s1 =>
  fX7_laysFewest_6 FU a0 x1 0 s1))
set_option maxHeartbeats 4000000 in
theorem oX7_laysFewest_85 {Γ : CX} (C : OKC Γ cX7_laysFewest RX7 none) (T : ∀ z ∈ (cx_c Γ).exceptionTable.toList, False) (hn : cx_nL Γ = 4) (hR : cx_fr Γ = 4 ∧ cx_lo Γ = 126) (hin : (cx_meth Γ).name = yX7_laysFewest.name) {r50 : Nat → Int32 → Int32 → AS → Option AR} (h50 : ∀ (a0 : Nat) (x1 : Int32) (x2 : Int32) (s0 : AS), OK Γ 50 [(0, .ref a0), (1, .int x1), (2, .int x2)] [] (r50 a0 x1 x2 s0) s0) : ∀ (a0 : Nat) (x1 : Int32) (x2 : Int32) (s0 : AS), OK Γ 85 [(0, .ref a0), (1, .int x1), (2, .int x2)] [] (fX7_laysFewest_85 r50 a0 x1 x2 s0) s0 := by
  intro a0 x1 x2 s0
  unfold fX7_laysFewest_85
  refine ok_iincL C 2 (c := (-1)) (fun v1 => [(2, .int v1), (0, .ref a0), (1, .int x1)]) dX7_laysFewest_85 rfl rfl (by rw [hn]; decide) (fun _ => rfl) (fun v1 => ?_)
  refine ok_goto C 50 dX7_laysFewest_88 (by decide) ?_
  refine OK.sub (lv' := [(0, .ref a0), (1, .int x1), (2, .int v1)]) [1, 2, 0] rfl ?_
  exact h50 a0 x1 v1 s0
set_option maxHeartbeats 4000000 in
theorem oX7_laysFewest_56 {Γ : CX} (C : OKC Γ cX7_laysFewest RX7 none) (T : ∀ z ∈ (cx_c Γ).exceptionTable.toList, False) (hn : cx_nL Γ = 4) (hR : cx_fr Γ = 4 ∧ cx_lo Γ = 126) (hin : (cx_meth Γ).name = yX7_laysFewest.name) {r50 : Nat → Int32 → Int32 → AS → Option AR} (h50 : ∀ (a0 : Nat) (x1 : Int32) (x2 : Int32) (s0 : AS), OK Γ 50 [(0, .ref a0), (1, .int x1), (2, .int x2)] [] (r50 a0 x1 x2 s0) s0) : ∀ (n : Nat) (a0 : Nat) (x1 : Int32) (x2 : Int32) (x3 : Int32) (s0 : AS), OK Γ 56 [(0, .ref a0), (1, .int x1), (2, .int x2), (3, .int x3)] [] (fX7_laysFewest_56 r50 n a0 x1 x2 x3 s0) s0 := by
  intro n
  induction n with
  | zero => intro _ _ _ _ s0; exact OK.none
  | succ n ih =>
    intro a0 x1 x2 x3 s0
    rw [fX7_laysFewest_56]
    refine ok_iload_n C 3 dX7_laysFewest_56 rfl ?_
    refine ok_iload_n C 1 dX7_laysFewest_57 rfl ?_
    refine ok_icmp_gt C 85 dX7_laysFewest_58 (by decide) ?_ ?_
    · refine OK.sub (lv' := [(0, .ref a0), (1, .int x1), (2, .int x2)]) [0, 1, 2] rfl ?_
      exact oX7_laysFewest_85 C T hn hR hin h50 a0 x1 x2 s0
    · refine ok_aload_n C 0 dX7_laysFewest_61 rfl ?_
      refine ok_getR C frX7_52_11 dX7_laysFewest_62 (fun q1 => ?_)
      refine ok_sipush C (v := 501) dX7_laysFewest_65 (by decide) ?_
      refine ok_iload_n C 2 dX7_laysFewest_68 rfl ?_
      refine ok_imul C dX7_laysFewest_69 ?_
      refine ok_iload_n C 3 dX7_laysFewest_70 rfl ?_
      refine ok_iadd C dX7_laysFewest_71 ?_
      refine ok_aload_n C 0 dX7_laysFewest_72 rfl ?_
      refine ok_iload_n C 2 dX7_laysFewest_73 rfl ?_
      refine ok_iload_n C 3 dX7_laysFewest_74 rfl ?_
      refine ok_callV C T [.int x2, .int x3] (F := fX7_fewestWith a0 x2 x3) (ctX7_fewestWith (C.2.2.2.2.2.2.2.2.1) a0 x2 x3) vlX7_281 viX7_fewestWith rfl rfl (by decide) rfl (by rw [hR.1, hR.2]; decide) (Nat.le_of_ble_eq_true rfl) dX7_laysFewest_75 (ok_qI fun v2 s3 => ?_)
      refine ok_iast C dX7_laysFewest_78 (fun s4 _ => ?_)
      refine ok_iincL C 3 (c := 1) (fun v5 => [(3, .int v5), (0, .ref a0), (1, .int x1), (2, .int x2)]) dX7_laysFewest_79 rfl rfl (by rw [hn]; decide) (fun _ => rfl) (fun v5 => ?_)
      refine ok_goto C 56 dX7_laysFewest_82 (by decide) ?_
      refine OK.sub (lv' := [(0, .ref a0), (1, .int x1), (2, .int x2), (3, .int v5)]) [1, 2, 3, 0] rfl ?_
      exact ih a0 x1 x2 v5 s4
set_option maxHeartbeats 4000000 in
theorem oX7_laysFewest_50 {Γ : CX} (C : OKC Γ cX7_laysFewest RX7 none) (T : ∀ z ∈ (cx_c Γ).exceptionTable.toList, False) (hn : cx_nL Γ = 4) (hR : cx_fr Γ = 4 ∧ cx_lo Γ = 126) (hin : (cx_meth Γ).name = yX7_laysFewest.name) : ∀ (n : Nat) (a0 : Nat) (x1 : Int32) (x2 : Int32) (s0 : AS), OK Γ 50 [(0, .ref a0), (1, .int x1), (2, .int x2)] [] (fX7_laysFewest_50 n a0 x1 x2 s0) s0 := by
  intro n
  induction n with
  | zero => intro _ _ _ s0; exact OK.none
  | succ n ih =>
    intro a0 x1 x2 s0
    rw [fX7_laysFewest_50]
    refine ok_iload_n C 2 dX7_laysFewest_50 rfl ?_
    refine ok_if_lt C 91 dX7_laysFewest_51 (by decide) ?_ ?_
    · exact ok_vreturn C dX7_laysFewest_91
    · refine ok_iconst C (v := 0) dX7_laysFewest_54 (by decide) ?_
      refine ok_istore_n C (i := 3) [(3, .int 0), (0, .ref a0), (1, .int x1), (2, .int x2)] dX7_laysFewest_55 rfl (by rw [hn]; decide) rfl ?_
      refine OK.sub (lv' := [(0, .ref a0), (1, .int x1), (2, .int x2), (3, .int 0)]) [1, 2, 3, 0] rfl ?_
      exact oX7_laysFewest_56 C T hn hR hin ih FU a0 x1 x2 0 s0
set_option maxHeartbeats 4000000 in
theorem oX7_laysFewest_43 {Γ : CX} (C : OKC Γ cX7_laysFewest RX7 none) (T : ∀ z ∈ (cx_c Γ).exceptionTable.toList, False) (hn : cx_nL Γ = 4) (hR : cx_fr Γ = 4 ∧ cx_lo Γ = 126) (hin : (cx_meth Γ).name = yX7_laysFewest.name) : ∀ (a0 : Nat) (x1 : Int32) (s0 : AS), OK Γ 43 [(0, .ref a0), (1, .int x1)] [] (fX7_laysFewest_43  a0 x1 s0) s0 := by
  intro a0 x1 s0
  unfold fX7_laysFewest_43
  refine ok_aload_n C 0 dX7_laysFewest_43 rfl ?_
  refine ok_getI C frX7_172_11 dX7_laysFewest_44 (fun v1 => ?_)
  refine ok_iconst C (v := 1) dX7_laysFewest_47 (by decide) ?_
  refine ok_isub C dX7_laysFewest_48 ?_
  refine ok_lt (fun v2 => ?_)
  refine ok_istore_n C (i := 2) [(2, .int v2), (0, .ref a0), (1, .int x1)] dX7_laysFewest_49 rfl (by rw [hn]; decide) rfl ?_
  refine OK.sub (lv' := [(0, .ref a0), (1, .int x1), (2, .int v2)]) [1, 2, 0] rfl ?_
  exact oX7_laysFewest_50 C T hn hR hin FU a0 x1 v2 s0
set_option maxHeartbeats 4000000 in
theorem oX7_laysFewest_36 {Γ : CX} (C : OKC Γ cX7_laysFewest RX7 none) (T : ∀ z ∈ (cx_c Γ).exceptionTable.toList, False) (hn : cx_nL Γ = 4) (hR : cx_fr Γ = 4 ∧ cx_lo Γ = 126) (hin : (cx_meth Γ).name = yX7_laysFewest.name) {r6 : Nat → Int32 → Int32 → AS → Option AR} (h6 : ∀ (a0 : Nat) (x1 : Int32) (x2 : Int32) (s0 : AS), OK Γ 6 [(0, .ref a0), (1, .int x1), (2, .int x2)] [] (r6 a0 x1 x2 s0) s0) : ∀ (a0 : Nat) (x1 : Int32) (x2 : Int32) (t0 : Nat) (t1 : Int32) (t2 : Int32) (s0 : AS), OK Γ 36 [(0, .ref a0), (1, .int x1), (2, .int x2)] [.int t2, .int t1, .ref t0] (fX7_laysFewest_36 r6 a0 x1 x2 t0 t1 t2 s0) s0 := by
  intro a0 x1 x2 t0 t1 t2 s0
  unfold fX7_laysFewest_36
  refine ok_iast C dX7_laysFewest_36 (fun s1 _ => ?_)
  refine ok_iincL C 2 (c := 1) (fun v2 => [(2, .int v2), (0, .ref a0), (1, .int x1)]) dX7_laysFewest_37 rfl rfl (by rw [hn]; decide) (fun _ => rfl) (fun v2 => ?_)
  refine ok_goto C 6 dX7_laysFewest_40 (by decide) ?_
  refine OK.sub (lv' := [(0, .ref a0), (1, .int x1), (2, .int v2)]) [1, 2, 0] rfl ?_
  exact h6 a0 x1 v2 s1
set_option maxHeartbeats 4000000 in
theorem oX7_laysFewest_6 {Γ : CX} (C : OKC Γ cX7_laysFewest RX7 none) (T : ∀ z ∈ (cx_c Γ).exceptionTable.toList, False) (hn : cx_nL Γ = 4) (hR : cx_fr Γ = 4 ∧ cx_lo Γ = 126) (hin : (cx_meth Γ).name = yX7_laysFewest.name) : ∀ (n : Nat) (a0 : Nat) (x1 : Int32) (x2 : Int32) (s0 : AS), OK Γ 6 [(0, .ref a0), (1, .int x1), (2, .int x2)] [] (fX7_laysFewest_6 n a0 x1 x2 s0) s0 := by
  intro n
  induction n with
  | zero => intro _ _ _ s0; exact OK.none
  | succ n ih =>
    intro a0 x1 x2 s0
    rw [fX7_laysFewest_6]
    refine ok_iload_n C 2 dX7_laysFewest_6 rfl ?_
    refine ok_iload_n C 1 dX7_laysFewest_7 rfl ?_
    refine ok_icmp_gt C 43 dX7_laysFewest_8 (by decide) ?_ ?_
    · refine OK.sub (lv' := [(0, .ref a0), (1, .int x1)]) [0, 1] rfl ?_
      exact oX7_laysFewest_43 C T hn hR hin a0 x1 s0
    · refine ok_aload_n C 0 dX7_laysFewest_11 rfl ?_
      refine ok_getR C frX7_52_11 dX7_laysFewest_12 (fun q1 => ?_)
      refine ok_sipush C (v := 501) dX7_laysFewest_15 (by decide) ?_
      refine ok_aload_n C 0 dX7_laysFewest_18 rfl ?_
      refine ok_getI C frX7_172_11 dX7_laysFewest_19 (fun v2 => ?_)
      refine ok_imul C dX7_laysFewest_22 ?_
      refine ok_iload_n C 2 dX7_laysFewest_23 rfl ?_
      refine ok_iadd C dX7_laysFewest_24 ?_
      refine ok_iload_n C 2 dX7_laysFewest_25 rfl ?_
      refine ok_if_ne C 33 dX7_laysFewest_26 (by decide) ?_ ?_
      · refine ok_ldcw C (v := 1000000) kw_915 dX7_laysFewest_33 ?_
        exact oX7_laysFewest_36 C T hn hR hin ih a0 x1 x2 q1 ((501 * v2) + x2) 1000000 s0
      · refine ok_iconst C (v := 0) dX7_laysFewest_29 (by decide) ?_
        refine ok_goto C 36 dX7_laysFewest_30 (by decide) ?_
        exact oX7_laysFewest_36 C T hn hR hin ih a0 x1 x2 q1 ((501 * v2) + x2) 0 s0
set_option maxHeartbeats 4000000 in
theorem oX7_laysFewest {Γ : CX} (C : OKC Γ cX7_laysFewest RX7 none) (T : ∀ z ∈ (cx_c Γ).exceptionTable.toList, False) (hn : cx_nL Γ = 4) (hR : cx_fr Γ = 4 ∧ cx_lo Γ = 126) (hin : (cx_meth Γ).name = yX7_laysFewest.name) : ∀ (a0 : Nat) (x1 : Int32) (s0 : AS), OK Γ 0 [(0, .ref a0), (1, .int x1)] [] (fX7_laysFewest a0 x1 s0) s0 := by
  intro a0 x1 s0
  unfold fX7_laysFewest
  refine ok_aload_n C 0 dX7_laysFewest_0 rfl ?_
  refine ok_callV C T [] (F := fX7_laysOrder a0) (ctX7_laysOrder (C.2.2.2.2.2.2.2.2.1) a0) vlX7_277 viX7_laysOrder rfl rfl (by decide) rfl (by rw [hR.1, hR.2]; decide) (Nat.le_of_ble_eq_true rfl) dX7_laysFewest_1 (ok_qV fun s1 => ?_)
  refine ok_iconst C (v := 0) dX7_laysFewest_4 (by decide) ?_
  refine ok_istore_n C (i := 2) [(2, .int 0), (0, .ref a0), (1, .int x1)] dX7_laysFewest_5 rfl (by rw [hn]; decide) rfl ?_
  refine OK.sub (lv' := [(0, .ref a0), (1, .int x1), (2, .int 0)]) [1, 2, 0] rfl ?_
  exact oX7_laysFewest_6 C T hn hR hin FU a0 x1 0 s1
theorem ctX7_laysFewest {l : Launch} (hl : l.stackTraces = false) {D : va_G} {dA : Nat → ClassId} {B0 : Nat} (a0 : Nat) (x1 : Int32) : Ct l D dA B0 yX7_laysFewest (.code yX7_laysFewest cX7_laysFewest 4 (none) :: ax_ALL) 4 126 [.ref a0, .int x1] (fX7_laysFewest a0 x1) :=
  Ct.of hl (by decide +kernel) (Nat.le_of_ble_eq_true rfl) fun Γ C _ _ _ _ e5 e6 e7 T hin => oX7_laysFewest C T e5 ⟨e6, e7⟩ hin a0 x1 _
/-! ChaseLockerModel.need(I)I -/
def fX7_need (a0 : Nat) (x1 : Int32) (s0 : AS) : Option AR :=
  cV s0 a0 11 (fX7_gap a0 x1 s0) (qI (fun v1 s2 =>
  cV s2 a0 11 (fX7_quoinLong a0 x1 s2) (qI (fun v3 s4 =>
  some (.inl (some (.int (v1 + v3))), s4)))))
set_option maxHeartbeats 4000000 in
theorem oX7_need {Γ : CX} (C : OKC Γ cX7_need RX7 (some (.int))) (T : ∀ z ∈ (cx_c Γ).exceptionTable.toList, False) (hn : cx_nL Γ = 2) (hR : cx_fr Γ = 6 ∧ cx_lo Γ = 168) (hin : (cx_meth Γ).name = yX7_need.name) : ∀ (a0 : Nat) (x1 : Int32) (s0 : AS), OK Γ 0 [(0, .ref a0), (1, .int x1)] [] (fX7_need a0 x1 s0) s0 := by
  intro a0 x1 s0
  unfold fX7_need
  refine ok_aload_n C 0 dX7_need_0 rfl ?_
  refine ok_iload_n C 1 dX7_need_1 rfl ?_
  refine ok_callV C T [.int x1] (F := fX7_gap a0 x1) (ctX7_gap (C.2.2.2.2.2.2.2.2.1) a0 x1) vlX7_192 viX7_gap rfl rfl (by decide) rfl (by rw [hR.1, hR.2]; decide) (Nat.le_of_ble_eq_true rfl) dX7_need_2 (ok_qI fun v1 s2 => ?_)
  refine ok_aload_n C 0 dX7_need_5 rfl ?_
  refine ok_iload_n C 1 dX7_need_6 rfl ?_
  refine ok_callV C T [.int x1] (F := fX7_quoinLong a0 x1) (ctX7_quoinLong (C.2.2.2.2.2.2.2.2.1) a0 x1) vlX7_244 viX7_quoinLong rfl rfl (by decide) rfl (by rw [hR.1, hR.2]; decide) (Nat.le_of_ble_eq_true rfl) dX7_need_7 (ok_qI fun v3 s4 => ?_)
  refine ok_iadd C dX7_need_10 ?_
  exact ok_ireturn C dX7_need_11
theorem ctX7_need {l : Launch} (hl : l.stackTraces = false) {D : va_G} {dA : Nat → ClassId} {B0 : Nat} (a0 : Nat) (x1 : Int32) : Ct l D dA B0 yX7_need (.code yX7_need cX7_need 2 (some (.int)) :: ax_ALL) 6 168 [.ref a0, .int x1] (fX7_need a0 x1) :=
  Ct.of hl (by decide +kernel) (Nat.le_of_ble_eq_true rfl) fun Γ C _ _ _ _ e5 e6 e7 T hin => oX7_need C T e5 ⟨e6, e7⟩ hin a0 x1 _
/-! ChaseLockerModel.canOpen(I)Z -/
def fX7_canOpen (a0 : Nat) (x1 : Int32) (s0 : AS) : Option AR :=
  cV s0 a0 11 (fX7_hasQuoin a0 x1 s0) (qI (fun v1 s2 =>
  if v1 = 0 then (
    gR s2 a0 11 12 (fun q3 =>
    aI s2 q3 100 0 (fun v4 =>
    if v4 ≤ 0 then (
      rZ 0 s2)
    else (
      rZ 1 s2))))
  else (
    rZ 1 s2)))
set_option maxHeartbeats 4000000 in
theorem oX7_canOpen {Γ : CX} (C : OKC Γ cX7_canOpen RX7 (some (.boolean))) (T : ∀ z ∈ (cx_c Γ).exceptionTable.toList, False) (hn : cx_nL Γ = 2) (hR : cx_fr Γ = 3 ∧ cx_lo Γ = 103) (hin : (cx_meth Γ).name = yX7_canOpen.name) : ∀ (a0 : Nat) (x1 : Int32) (s0 : AS), OK Γ 0 [(0, .ref a0), (1, .int x1)] [] (fX7_canOpen a0 x1 s0) s0 := by
  intro a0 x1 s0
  unfold fX7_canOpen
  refine ok_aload_n C 0 dX7_canOpen_0 rfl ?_
  refine ok_iload_n C 1 dX7_canOpen_1 rfl ?_
  refine ok_callV C T [.int x1] (F := fX7_hasQuoin a0 x1) (ctX7_hasQuoin (C.2.2.2.2.2.2.2.2.1) a0 x1) vlX7_238 viX7_hasQuoin rfl rfl (by decide) rfl (by rw [hR.1, hR.2]; decide) (Nat.le_of_ble_eq_true rfl) dX7_canOpen_2 (ok_qI fun v1 s2 => ?_)
  refine ok_if_ne C 17 dX7_canOpen_5 (by decide) ?_ ?_
  · refine ok_iconst C (v := 1) dX7_canOpen_17 (by decide) ?_
    refine ok_goto C 22 dX7_canOpen_18 (by decide) ?_
    exact ok_zreturn C dX7_canOpen_22
  · refine ok_aload_n C 0 dX7_canOpen_8 rfl ?_
    refine ok_getR C frX7_17_11 dX7_canOpen_9 (fun q3 => ?_)
    refine ok_iconst C (v := 0) dX7_canOpen_12 (by decide) ?_
    refine ok_iald C dX7_canOpen_13 (fun v4 => ?_)
    refine ok_if_le C 21 dX7_canOpen_14 (by decide) ?_ ?_
    · refine ok_iconst C (v := 0) dX7_canOpen_21 (by decide) ?_
      exact ok_zreturn C dX7_canOpen_22
    · refine ok_iconst C (v := 1) dX7_canOpen_17 (by decide) ?_
      refine ok_goto C 22 dX7_canOpen_18 (by decide) ?_
      exact ok_zreturn C dX7_canOpen_22
theorem ctX7_canOpen {l : Launch} (hl : l.stackTraces = false) {D : va_G} {dA : Nat → ClassId} {B0 : Nat} (a0 : Nat) (x1 : Int32) : Ct l D dA B0 yX7_canOpen (.code yX7_canOpen cX7_canOpen 2 (some (.boolean)) :: ax_ALL) 3 103 [.ref a0, .int x1] (fX7_canOpen a0 x1) :=
  Ct.of hl (by decide +kernel) (Nat.le_of_ble_eq_true rfl) fun Γ C _ _ _ _ e5 e6 e7 T hin => oX7_canOpen C T e5 ⟨e6, e7⟩ hin a0 x1 _
/-! ChaseLockerModel.sumFor(II)I -/
def fX7_sumFor (a0 : Nat) (x1 : Int32) (x2 : Int32) (s0 : AS) : Option AR :=
  if x2 = (-1 : Int32) then (
    cV s0 a0 11 (fX7_need a0 x1 s0) (qI (fun v4 s5 =>
    some (.inl (some (.int v4)), s5))))
  else (
    cV s0 a0 11 (fX7_need a0 x1 s0) (qI (fun v1 s2 =>
    gI s2 a0 11 4 (fun v3 =>
    some (.inl (some (.int ((v1 - v3) - x2))), s2)))))
set_option maxHeartbeats 4000000 in
theorem oX7_sumFor {Γ : CX} (C : OKC Γ cX7_sumFor RX7 (some (.int))) (T : ∀ z ∈ (cx_c Γ).exceptionTable.toList, False) (hn : cx_nL Γ = 3) (hR : cx_fr Γ = 7 ∧ cx_lo Γ = 189) (hin : (cx_meth Γ).name = yX7_sumFor.name) : ∀ (a0 : Nat) (x1 : Int32) (x2 : Int32) (s0 : AS), OK Γ 0 [(0, .ref a0), (1, .int x1), (2, .int x2)] [] (fX7_sumFor a0 x1 x2 s0) s0 := by
  intro a0 x1 x2 s0
  unfold fX7_sumFor
  refine ok_iload_n C 2 dX7_sumFor_0 rfl ?_
  refine ok_iconst C (v := (-1)) dX7_sumFor_1 (by decide) ?_
  refine ok_icmp_ne C 13 dX7_sumFor_2 (by decide) ?_ ?_
  · refine ok_aload_n C 0 dX7_sumFor_13 rfl ?_
    refine ok_iload_n C 1 dX7_sumFor_14 rfl ?_
    refine ok_callV C T [.int x1] (F := fX7_need a0 x1) (ctX7_need (C.2.2.2.2.2.2.2.2.1) a0 x1) vlX7_292 viX7_need rfl rfl (by decide) rfl (by rw [hR.1, hR.2]; decide) (Nat.le_of_ble_eq_true rfl) dX7_sumFor_15 (ok_qI fun v1 s2 => ?_)
    refine ok_aload_n C 0 dX7_sumFor_18 rfl ?_
    refine ok_getI C frX7_157_11 dX7_sumFor_19 (fun v3 => ?_)
    refine ok_isub C dX7_sumFor_22 ?_
    refine ok_iload_n C 2 dX7_sumFor_23 rfl ?_
    refine ok_isub C dX7_sumFor_24 ?_
    exact ok_ireturn C dX7_sumFor_25
  · refine ok_aload_n C 0 dX7_sumFor_5 rfl ?_
    refine ok_iload_n C 1 dX7_sumFor_6 rfl ?_
    refine ok_callV C T [.int x1] (F := fX7_need a0 x1) (ctX7_need (C.2.2.2.2.2.2.2.2.1) a0 x1) vlX7_292 viX7_need rfl rfl (by decide) rfl (by rw [hR.1, hR.2]; decide) (Nat.le_of_ble_eq_true rfl) dX7_sumFor_7 (ok_qI fun v4 s5 => ?_)
    refine ok_goto C 25 dX7_sumFor_10 (by decide) ?_
    exact ok_ireturn C dX7_sumFor_25
theorem ctX7_sumFor {l : Launch} (hl : l.stackTraces = false) {D : va_G} {dA : Nat → ClassId} {B0 : Nat} (a0 : Nat) (x1 : Int32) (x2 : Int32) : Ct l D dA B0 yX7_sumFor (.code yX7_sumFor cX7_sumFor 3 (some (.int)) :: ax_ALL) 7 189 [.ref a0, .int x1, .int x2] (fX7_sumFor a0 x1 x2) :=
  Ct.of hl (by decide +kernel) (Nat.le_of_ble_eq_true rfl) fun Γ C _ _ _ _ e5 e6 e7 T hin => oX7_sumFor C T e5 ⟨e6, e7⟩ hin a0 x1 x2 _
/-! ChaseLockerModel.laysChosen(I)V -/
def fX7_laysChosen_121 (r4 : Nat → Int32 → Int32 → AS → Option AR) (a0 : Nat) (x2 : Int32) (x3 : Int32) (x4 : Int32) (x5 : Int32) (s0 : AS) : Option AR :=
  gR s0 a0 11 35 (fun q1 =>
  uI s0 q1 x4 x5 (fun s2 =>
  gR s2 a0 11 11 (fun q3 =>
  aI s2 q3 100 x4 (fun v4 =>
  lt (x2 - (x5 * v4)) (fun v5 =>
  lt (x3 + 1) (fun v6 =>
  r4 a0 v5 v6 s2))))))
def fX7_laysChosen_113 (r4 : Nat → Int32 → Int32 → AS → Option AR) (r26 : Nat → Int32 → Int32 → Int32 → Int32 → Int32 → AS → Option AR) (a0 : Nat) (x2 : Int32) (x3 : Int32) (x4 : Int32) (x6 : Int32) (t0 : Int32) (s0 : AS) : Option AR :=
  lt (x6 + 1) (fun v1 =>
  r26 a0 x2 x3 x4 t0 v1 s0)
def fX7_laysChosen_99 (r4 : Nat → Int32 → Int32 → AS → Option AR) (r26 : Nat → Int32 → Int32 → Int32 → Int32 → Int32 → AS → Option AR) (a0 : Nat) (x2 : Int32) (x3 : Int32) (x4 : Int32) (x5 : Int32) (x6 : Int32) (t0 : Int32) (s0 : AS) : Option AR :=
  if t0 = 0 then (
    fX7_laysChosen_113 r4 r26 a0 x2 x3 x4 x6 x5 s0)
  else (
    fX7_laysChosen_113 r4 r26 a0 x2 x3 x4 x6 x6 s0)
def fX7_laysChosen_26 (r4 : Nat → Int32 → Int32 → AS → Option AR) : Nat → Nat → Int32 → Int32 → Int32 → Int32 → Int32 → AS → Option AR
  | 0, _, _, _, _, _, _, _ => none
  | n + 1, a0, x2, x3, x4, x5, x6, s0 =>
    cV s0 a0 11 (fX7_leftOf a0 x4 s0) (qI (fun v1 s2 =>
    if v1 < x6 then (
      fX7_laysChosen_121 r4 a0 x2 x3 x4 x5 s2)
    else (
      gR s2 a0 11 11 (fun q3 =>
      aI s2 q3 100 x4 (fun v4 =>
      if x2 < (x6 * v4) then (
        fX7_laysChosen_121 r4 a0 x2 x3 x4 x5 s2)
      else (
        gR s2 a0 11 34 (fun q5 =>
        gR s2 a0 11 11 (fun q6 =>
        aI s2 q6 100 x4 (fun v7 =>
        aI s2 q5 100 (((501 * (x3 + 1)) + x2) - (x6 * v7)) (fun v8 =>
        gR s2 a0 11 34 (fun q9 =>
        aI s2 q9 100 ((501 * x3) + x2) (fun v10 =>
        if (x6 + v8) = v10 then (
          fX7_laysChosen_99 r4 (fX7_laysChosen_26 r4 n) a0 x2 x3 x4 x5 x6 1 s2)
        else (
          fX7_laysChosen_99 r4 (fX7_laysChosen_26 r4 n) a0 x2 x3 x4 x5 x6 0 s2)))))))))))))
def fX7_laysChosen_4  : Nat → Nat → Int32 → Int32 → AS → Option AR
  | 0, _, _, _, _ => none
  | n + 1, a0, x2, x3, s0 =>
    gI s0 a0 11 9 (fun v1 =>
    if v1 ≤ x3 then (
      some (.inl none, s0))
    else (
      gR s0 a0 11 33 (fun q2 =>
      aI s0 q2 100 x3 (fun v3 =>
      fX7_laysChosen_26 (fX7_laysChosen_4 n) FU a0 x2 x3 v3 0 0 s0))))
def fX7_laysChosen (a0 : Nat) (x1 : Int32) (s0 : AS) : Option AR :=
  fX7_laysChosen_4 FU a0 x1 0 s0
set_option maxHeartbeats 4000000 in
theorem oX7_laysChosen_121 {Γ : CX} (C : OKC Γ cX7_laysChosen RX7 none) (T : ∀ z ∈ (cx_c Γ).exceptionTable.toList, False) (hn : cx_nL Γ = 8) (hR : cx_fr Γ = 3 ∧ cx_lo Γ = 101) (hin : (cx_meth Γ).name = yX7_laysChosen.name) {r4 : Nat → Int32 → Int32 → AS → Option AR} (h4 : ∀ (a0 : Nat) (x2 : Int32) (x3 : Int32) (s0 : AS), OK Γ 4 [(0, .ref a0), (2, .int x2), (3, .int x3)] [] (r4 a0 x2 x3 s0) s0) : ∀ (a0 : Nat) (x2 : Int32) (x3 : Int32) (x4 : Int32) (x5 : Int32) (s0 : AS), OK Γ 121 [(0, .ref a0), (2, .int x2), (3, .int x3), (4, .int x4), (5, .int x5)] [] (fX7_laysChosen_121 r4 a0 x2 x3 x4 x5 s0) s0 := by
  intro a0 x2 x3 x4 x5 s0
  unfold fX7_laysChosen_121
  refine ok_aload_n C 0 dX7_laysChosen_121 rfl ?_
  refine ok_getR C frX7_55_11 dX7_laysChosen_122 (fun q1 => ?_)
  refine ok_iload C 3 dX7_laysChosen_125 rfl ?_
  refine ok_iload C 4 dX7_laysChosen_127 rfl ?_
  refine ok_iast C dX7_laysChosen_129 (fun s2 _ => ?_)
  refine ok_iload_n C 1 dX7_laysChosen_130 rfl ?_
  refine ok_iload C 4 dX7_laysChosen_131 rfl ?_
  refine ok_aload_n C 0 dX7_laysChosen_133 rfl ?_
  refine ok_getR C frX7_13_11 dX7_laysChosen_134 (fun q3 => ?_)
  refine ok_iload C 3 dX7_laysChosen_137 rfl ?_
  refine ok_iald C dX7_laysChosen_139 (fun v4 => ?_)
  refine ok_imul C dX7_laysChosen_140 ?_
  refine ok_isub C dX7_laysChosen_141 ?_
  refine ok_lt (fun v5 => ?_)
  refine ok_istore_n C (i := 2) [(2, .int v5), (0, .ref a0), (3, .int x3), (4, .int x4), (5, .int x5)] dX7_laysChosen_142 rfl (by rw [hn]; decide) rfl ?_
  refine ok_iincL C 2 (c := 1) (fun v6 => [(3, .int v6), (2, .int v5), (0, .ref a0), (4, .int x4), (5, .int x5)]) dX7_laysChosen_143 rfl rfl (by rw [hn]; decide) (fun _ => rfl) (fun v6 => ?_)
  refine ok_goto C 4 dX7_laysChosen_146 (by decide) ?_
  refine OK.sub (lv' := [(0, .ref a0), (2, .int v5), (3, .int v6)]) [2, 1, 0] rfl ?_
  exact h4 a0 v5 v6 s2
set_option maxHeartbeats 4000000 in
theorem oX7_laysChosen_113 {Γ : CX} (C : OKC Γ cX7_laysChosen RX7 none) (T : ∀ z ∈ (cx_c Γ).exceptionTable.toList, False) (hn : cx_nL Γ = 8) (hR : cx_fr Γ = 3 ∧ cx_lo Γ = 101) (hin : (cx_meth Γ).name = yX7_laysChosen.name) {r4 : Nat → Int32 → Int32 → AS → Option AR} {r26 : Nat → Int32 → Int32 → Int32 → Int32 → Int32 → AS → Option AR} (h4 : ∀ (a0 : Nat) (x2 : Int32) (x3 : Int32) (s0 : AS), OK Γ 4 [(0, .ref a0), (2, .int x2), (3, .int x3)] [] (r4 a0 x2 x3 s0) s0) (h26 : ∀ (a0 : Nat) (x2 : Int32) (x3 : Int32) (x4 : Int32) (x5 : Int32) (x6 : Int32) (s0 : AS), OK Γ 26 [(0, .ref a0), (2, .int x2), (3, .int x3), (4, .int x4), (5, .int x5), (6, .int x6)] [] (r26 a0 x2 x3 x4 x5 x6 s0) s0) : ∀ (a0 : Nat) (x2 : Int32) (x3 : Int32) (x4 : Int32) (x6 : Int32) (t0 : Int32) (s0 : AS), OK Γ 113 [(0, .ref a0), (2, .int x2), (3, .int x3), (4, .int x4), (6, .int x6)] [.int t0] (fX7_laysChosen_113 r4 r26 a0 x2 x3 x4 x6 t0 s0) s0 := by
  intro a0 x2 x3 x4 x6 t0 s0
  unfold fX7_laysChosen_113
  refine ok_istore C (i := 5) [(5, .int t0), (0, .ref a0), (2, .int x2), (3, .int x3), (4, .int x4), (6, .int x6)] dX7_laysChosen_113 (by rw [hn]; decide) rfl ?_
  refine ok_iincL C 5 (c := 1) (fun v1 => [(6, .int v1), (5, .int t0), (0, .ref a0), (2, .int x2), (3, .int x3), (4, .int x4)]) dX7_laysChosen_115 rfl rfl (by rw [hn]; decide) (fun _ => rfl) (fun v1 => ?_)
  refine ok_goto C 26 dX7_laysChosen_118 (by decide) ?_
  refine OK.sub (lv' := [(0, .ref a0), (2, .int x2), (3, .int x3), (4, .int x4), (5, .int t0), (6, .int v1)]) [2, 3, 4, 5, 1, 0] rfl ?_
  exact h26 a0 x2 x3 x4 t0 v1 s0
set_option maxHeartbeats 4000000 in
theorem oX7_laysChosen_99 {Γ : CX} (C : OKC Γ cX7_laysChosen RX7 none) (T : ∀ z ∈ (cx_c Γ).exceptionTable.toList, False) (hn : cx_nL Γ = 8) (hR : cx_fr Γ = 3 ∧ cx_lo Γ = 101) (hin : (cx_meth Γ).name = yX7_laysChosen.name) {r4 : Nat → Int32 → Int32 → AS → Option AR} {r26 : Nat → Int32 → Int32 → Int32 → Int32 → Int32 → AS → Option AR} (h4 : ∀ (a0 : Nat) (x2 : Int32) (x3 : Int32) (s0 : AS), OK Γ 4 [(0, .ref a0), (2, .int x2), (3, .int x3)] [] (r4 a0 x2 x3 s0) s0) (h26 : ∀ (a0 : Nat) (x2 : Int32) (x3 : Int32) (x4 : Int32) (x5 : Int32) (x6 : Int32) (s0 : AS), OK Γ 26 [(0, .ref a0), (2, .int x2), (3, .int x3), (4, .int x4), (5, .int x5), (6, .int x6)] [] (r26 a0 x2 x3 x4 x5 x6 s0) s0) : ∀ (a0 : Nat) (x2 : Int32) (x3 : Int32) (x4 : Int32) (x5 : Int32) (x6 : Int32) (t0 : Int32) (s0 : AS), OK Γ 99 [(0, .ref a0), (2, .int x2), (3, .int x3), (4, .int x4), (5, .int x5), (6, .int x6)] [.int t0] (fX7_laysChosen_99 r4 r26 a0 x2 x3 x4 x5 x6 t0 s0) s0 := by
  intro a0 x2 x3 x4 x5 x6 t0 s0
  unfold fX7_laysChosen_99
  refine ok_istore C (i := 7) [(7, .int t0), (0, .ref a0), (2, .int x2), (3, .int x3), (4, .int x4), (5, .int x5), (6, .int x6)] dX7_laysChosen_99 (by rw [hn]; decide) rfl ?_
  refine ok_iload C 0 dX7_laysChosen_101 rfl ?_
  refine ok_if_eq C 111 dX7_laysChosen_103 (by decide) ?_ ?_
  · refine ok_iload C 5 dX7_laysChosen_111 rfl ?_
    refine OK.sub (lv' := [(0, .ref a0), (2, .int x2), (3, .int x3), (4, .int x4), (6, .int x6)]) [1, 2, 3, 4, 6] rfl ?_
    exact oX7_laysChosen_113 C T hn hR hin h4 h26 a0 x2 x3 x4 x6 x5 s0
  · refine ok_iload C 6 dX7_laysChosen_106 rfl ?_
    refine ok_goto C 113 dX7_laysChosen_108 (by decide) ?_
    refine OK.sub (lv' := [(0, .ref a0), (2, .int x2), (3, .int x3), (4, .int x4), (6, .int x6)]) [1, 2, 3, 4, 6] rfl ?_
    exact oX7_laysChosen_113 C T hn hR hin h4 h26 a0 x2 x3 x4 x6 x6 s0
set_option maxHeartbeats 4000000 in
theorem oX7_laysChosen_26 {Γ : CX} (C : OKC Γ cX7_laysChosen RX7 none) (T : ∀ z ∈ (cx_c Γ).exceptionTable.toList, False) (hn : cx_nL Γ = 8) (hR : cx_fr Γ = 3 ∧ cx_lo Γ = 101) (hin : (cx_meth Γ).name = yX7_laysChosen.name) {r4 : Nat → Int32 → Int32 → AS → Option AR} (h4 : ∀ (a0 : Nat) (x2 : Int32) (x3 : Int32) (s0 : AS), OK Γ 4 [(0, .ref a0), (2, .int x2), (3, .int x3)] [] (r4 a0 x2 x3 s0) s0) : ∀ (n : Nat) (a0 : Nat) (x2 : Int32) (x3 : Int32) (x4 : Int32) (x5 : Int32) (x6 : Int32) (s0 : AS), OK Γ 26 [(0, .ref a0), (2, .int x2), (3, .int x3), (4, .int x4), (5, .int x5), (6, .int x6)] [] (fX7_laysChosen_26 r4 n a0 x2 x3 x4 x5 x6 s0) s0 := by
  intro n
  induction n with
  | zero => intro _ _ _ _ _ _ s0; exact OK.none
  | succ n ih =>
    intro a0 x2 x3 x4 x5 x6 s0
    rw [fX7_laysChosen_26]
    refine ok_iload C 5 dX7_laysChosen_26 rfl ?_
    refine ok_aload_n C 0 dX7_laysChosen_28 rfl ?_
    refine ok_iload C 3 dX7_laysChosen_29 rfl ?_
    refine ok_callV C T [.int x4] (F := fX7_leftOf a0 x4) (ctX7_leftOf (C.2.2.2.2.2.2.2.2.1) a0 x4) vlX7_284 viX7_leftOf rfl rfl (by decide) rfl (by rw [hR.1, hR.2]; decide) (Nat.le_of_ble_eq_true rfl) dX7_laysChosen_31 (ok_qI fun v1 s2 => ?_)
    refine ok_icmp_gt C 121 dX7_laysChosen_34 (by decide) ?_ ?_
    · refine OK.sub (lv' := [(0, .ref a0), (2, .int x2), (3, .int x3), (4, .int x4), (5, .int x5)]) [0, 1, 2, 3, 4] rfl ?_
      exact oX7_laysChosen_121 C T hn hR hin h4 a0 x2 x3 x4 x5 s2
    · refine ok_iload C 5 dX7_laysChosen_37 rfl ?_
      refine ok_aload_n C 0 dX7_laysChosen_39 rfl ?_
      refine ok_getR C frX7_13_11 dX7_laysChosen_40 (fun q3 => ?_)
      refine ok_iload C 3 dX7_laysChosen_43 rfl ?_
      refine ok_iald C dX7_laysChosen_45 (fun v4 => ?_)
      refine ok_imul C dX7_laysChosen_46 ?_
      refine ok_iload_n C 1 dX7_laysChosen_47 rfl ?_
      refine ok_icmp_gt C 121 dX7_laysChosen_48 (by decide) ?_ ?_
      · refine OK.sub (lv' := [(0, .ref a0), (2, .int x2), (3, .int x3), (4, .int x4), (5, .int x5)]) [0, 1, 2, 3, 4] rfl ?_
        exact oX7_laysChosen_121 C T hn hR hin h4 a0 x2 x3 x4 x5 s2
      · refine ok_iload C 5 dX7_laysChosen_51 rfl ?_
        refine ok_aload_n C 0 dX7_laysChosen_53 rfl ?_
        refine ok_getR C frX7_52_11 dX7_laysChosen_54 (fun q5 => ?_)
        refine ok_sipush C (v := 501) dX7_laysChosen_57 (by decide) ?_
        refine ok_iload_n C 2 dX7_laysChosen_60 rfl ?_
        refine ok_iconst C (v := 1) dX7_laysChosen_61 (by decide) ?_
        refine ok_iadd C dX7_laysChosen_62 ?_
        refine ok_imul C dX7_laysChosen_63 ?_
        refine ok_iload_n C 1 dX7_laysChosen_64 rfl ?_
        refine ok_iadd C dX7_laysChosen_65 ?_
        refine ok_iload C 5 dX7_laysChosen_66 rfl ?_
        refine ok_aload_n C 0 dX7_laysChosen_68 rfl ?_
        refine ok_getR C frX7_13_11 dX7_laysChosen_69 (fun q6 => ?_)
        refine ok_iload C 3 dX7_laysChosen_72 rfl ?_
        refine ok_iald C dX7_laysChosen_74 (fun v7 => ?_)
        refine ok_imul C dX7_laysChosen_75 ?_
        refine ok_isub C dX7_laysChosen_76 ?_
        refine ok_iald C dX7_laysChosen_77 (fun v8 => ?_)
        refine ok_iadd C dX7_laysChosen_78 ?_
        refine ok_aload_n C 0 dX7_laysChosen_79 rfl ?_
        refine ok_getR C frX7_52_11 dX7_laysChosen_80 (fun q9 => ?_)
        refine ok_sipush C (v := 501) dX7_laysChosen_83 (by decide) ?_
        refine ok_iload_n C 2 dX7_laysChosen_86 rfl ?_
        refine ok_imul C dX7_laysChosen_87 ?_
        refine ok_iload_n C 1 dX7_laysChosen_88 rfl ?_
        refine ok_iadd C dX7_laysChosen_89 ?_
        refine ok_iald C dX7_laysChosen_90 (fun v10 => ?_)
        refine ok_icmp_ne C 98 dX7_laysChosen_91 (by decide) ?_ ?_
        · refine ok_iconst C (v := 0) dX7_laysChosen_98 (by decide) ?_
          exact oX7_laysChosen_99 C T hn hR hin h4 ih a0 x2 x3 x4 x5 x6 0 s2
        · refine ok_iconst C (v := 1) dX7_laysChosen_94 (by decide) ?_
          refine ok_goto C 99 dX7_laysChosen_95 (by decide) ?_
          exact oX7_laysChosen_99 C T hn hR hin h4 ih a0 x2 x3 x4 x5 x6 1 s2
set_option maxHeartbeats 4000000 in
theorem oX7_laysChosen_4 {Γ : CX} (C : OKC Γ cX7_laysChosen RX7 none) (T : ∀ z ∈ (cx_c Γ).exceptionTable.toList, False) (hn : cx_nL Γ = 8) (hR : cx_fr Γ = 3 ∧ cx_lo Γ = 101) (hin : (cx_meth Γ).name = yX7_laysChosen.name) : ∀ (n : Nat) (a0 : Nat) (x2 : Int32) (x3 : Int32) (s0 : AS), OK Γ 4 [(0, .ref a0), (2, .int x2), (3, .int x3)] [] (fX7_laysChosen_4 n a0 x2 x3 s0) s0 := by
  intro n
  induction n with
  | zero => intro _ _ _ s0; exact OK.none
  | succ n ih =>
    intro a0 x2 x3 s0
    rw [fX7_laysChosen_4]
    refine ok_iload_n C 2 dX7_laysChosen_4 rfl ?_
    refine ok_aload_n C 0 dX7_laysChosen_5 rfl ?_
    refine ok_getI C frX7_172_11 dX7_laysChosen_6 (fun v1 => ?_)
    refine ok_icmp_ge C 149 dX7_laysChosen_9 (by decide) ?_ ?_
    · exact ok_vreturn C dX7_laysChosen_149
    · refine ok_aload_n C 0 dX7_laysChosen_12 rfl ?_
      refine ok_getR C frX7_49_11 dX7_laysChosen_13 (fun q2 => ?_)
      refine ok_iload_n C 2 dX7_laysChosen_16 rfl ?_
      refine ok_iald C dX7_laysChosen_17 (fun v3 => ?_)
      refine ok_istore C (i := 4) [(4, .int v3), (0, .ref a0), (2, .int x2), (3, .int x3)] dX7_laysChosen_18 (by rw [hn]; decide) rfl ?_
      refine ok_iconst C (v := 0) dX7_laysChosen_20 (by decide) ?_
      refine ok_istore C (i := 5) [(5, .int 0), (4, .int v3), (0, .ref a0), (2, .int x2), (3, .int x3)] dX7_laysChosen_21 (by rw [hn]; decide) rfl ?_
      refine ok_iconst C (v := 0) dX7_laysChosen_23 (by decide) ?_
      refine ok_istore C (i := 6) [(6, .int 0), (5, .int 0), (4, .int v3), (0, .ref a0), (2, .int x2), (3, .int x3)] dX7_laysChosen_24 (by rw [hn]; decide) rfl ?_
      refine OK.sub (lv' := [(0, .ref a0), (2, .int x2), (3, .int x3), (4, .int v3), (5, .int 0), (6, .int 0)]) [3, 4, 5, 2, 1, 0] rfl ?_
      exact oX7_laysChosen_26 C T hn hR hin ih FU a0 x2 x3 v3 0 0 s0
set_option maxHeartbeats 4000000 in
theorem oX7_laysChosen {Γ : CX} (C : OKC Γ cX7_laysChosen RX7 none) (T : ∀ z ∈ (cx_c Γ).exceptionTable.toList, False) (hn : cx_nL Γ = 8) (hR : cx_fr Γ = 3 ∧ cx_lo Γ = 101) (hin : (cx_meth Γ).name = yX7_laysChosen.name) : ∀ (a0 : Nat) (x1 : Int32) (s0 : AS), OK Γ 0 [(0, .ref a0), (1, .int x1)] [] (fX7_laysChosen a0 x1 s0) s0 := by
  intro a0 x1 s0
  unfold fX7_laysChosen
  refine ok_iload_n C 1 dX7_laysChosen_0 rfl ?_
  refine ok_istore_n C (i := 2) [(2, .int x1), (0, .ref a0), (1, .int x1)] dX7_laysChosen_1 rfl (by rw [hn]; decide) rfl ?_
  refine ok_iconst C (v := 0) dX7_laysChosen_2 (by decide) ?_
  refine ok_istore_n C (i := 3) [(3, .int 0), (2, .int x1), (0, .ref a0), (1, .int x1)] dX7_laysChosen_3 rfl (by rw [hn]; decide) rfl ?_
  refine OK.sub (lv' := [(0, .ref a0), (2, .int x1), (3, .int 0)]) [2, 1, 0] rfl ?_
  exact oX7_laysChosen_4 C T hn hR hin FU a0 x1 0 s0
theorem ctX7_laysChosen {l : Launch} (hl : l.stackTraces = false) {D : va_G} {dA : Nat → ClassId} {B0 : Nat} (a0 : Nat) (x1 : Int32) : Ct l D dA B0 yX7_laysChosen (.code yX7_laysChosen cX7_laysChosen 8 (none) :: ax_ALL) 3 101 [.ref a0, .int x1] (fX7_laysChosen a0 x1) :=
  Ct.of hl (by decide +kernel) (Nat.le_of_ble_eq_true rfl) fun Γ C _ _ _ _ e5 e6 e7 T hin => oX7_laysChosen C T e5 ⟨e6, e7⟩ hin a0 x1 _
/-! ChaseLockerModel.chooses(I)Z -/
def fX7_chooses_109  (a0 : Nat) (x1 : Int32) (x3 : Int32) (s0 : AS) : Option AR :=
  if x3 < (1000000 : Int32) then (
    gI s0 a0 11 36 (fun v1 =>
    cV s0 a0 11 (fX7_sumFor a0 x1 v1 s0) (qI (fun v2 s3 =>
    cV s3 a0 11 (fX7_laysChosen a0 v2 s3) (qV (fun s4 =>
    rZ 1 s4))))))
  else (
    rZ 0 s0)
def fX7_chooses_103 (r57 : Nat → Int32 → Int32 → Int32 → Int32 → AS → Option AR) (a0 : Nat) (x1 : Int32) (x3 : Int32) (x5 : Int32) (x6 : Int32) (s0 : AS) : Option AR :=
  lt (x6 + 1) (fun v1 =>
  r57 a0 x1 x3 x5 v1 s0)
def fX7_chooses_57  : Nat → Nat → Int32 → Int32 → Int32 → Int32 → AS → Option AR
  | 0, _, _, _, _, _, _ => none
  | n + 1, a0, x1, x3, x5, x6, s0 =>
    if x5 < x6 then (
      fX7_chooses_109 a0 x1 x3 s0)
    else (
      cV s0 a0 11 (fX7_sumFor a0 x1 x6 s0) (qI (fun v1 s2 =>
      if v1 < 0 then (
        fX7_chooses_103 (fX7_chooses_57 n) a0 x1 x3 x5 x6 s2)
      else (
        gR s2 a0 11 34 (fun q3 =>
        aI s2 q3 100 v1 (fun v4 =>
        if x3 ≤ v4 then (
          fX7_chooses_103 (fX7_chooses_57 n) a0 x1 x3 x5 x6 s2)
        else (
          gR s2 a0 11 34 (fun q5 =>
          aI s2 q5 100 v1 (fun v6 =>
          sI s2 a0 11 36 x6 (fun s7 =>
          fX7_chooses_103 (fX7_chooses_57 n) a0 x1 v6 x5 x6 s7))))))))))
def fX7_chooses_51  (a0 : Nat) (x1 : Int32) (x3 : Int32) (x4 : Int32) (t0 : Int32) (s0 : AS) : Option AR :=
  fX7_chooses_57 FU a0 x1 x3 t0 x4 s0
def fX7_chooses_33  (a0 : Nat) (x1 : Int32) (x3 : Int32) (t0 : Int32) (s0 : AS) : Option AR :=
  cV s0 a0 11 (fX7_canOpen a0 x1 s0) (qI (fun v1 s2 =>
  if v1 = 0 then (
    fX7_chooses_51 a0 x1 x3 t0 ((-1)) s2)
  else (
    gI s2 a0 11 5 (fun v3 =>
    fX7_chooses_51 a0 x1 x3 t0 v3 s2))))
def fX7_chooses (a0 : Nat) (x1 : Int32) (s0 : AS) : Option AR :=
  cV s0 a0 11 (fX7_need a0 x1 s0) (qI (fun v1 s2 =>
  cV s2 a0 11 (fX7_laysFewest a0 v1 s2) (qV (fun s3 =>
  sI s3 a0 11 36 ((-1)) (fun s4 =>
  cV s4 a0 11 (fX7_canOpen a0 x1 s4) (qI (fun v5 s6 =>
  if v5 = 0 then (
    fX7_chooses_33 a0 x1 1000000 ((-1)) s6)
  else (
    fX7_chooses_33 a0 x1 1000000 0 s6))))))))
set_option maxHeartbeats 4000000 in
theorem oX7_chooses_109 {Γ : CX} (C : OKC Γ cX7_chooses RX7 (some (.boolean))) (T : ∀ z ∈ (cx_c Γ).exceptionTable.toList, False) (hn : cx_nL Γ = 8) (hR : cx_fr Γ = 8 ∧ cx_lo Γ = 211) (hin : (cx_meth Γ).name = yX7_chooses.name) : ∀ (a0 : Nat) (x1 : Int32) (x3 : Int32) (s0 : AS), OK Γ 109 [(0, .ref a0), (1, .int x1), (3, .int x3)] [] (fX7_chooses_109  a0 x1 x3 s0) s0 := by
  intro a0 x1 x3 s0
  unfold fX7_chooses_109
  refine ok_iload_n C 2 dX7_chooses_109 rfl ?_
  refine ok_ldcw C (v := 1000000) kw_915 dX7_chooses_110 ?_
  refine ok_icmp_lt C 118 dX7_chooses_113 (by decide) ?_ ?_
  · refine ok_aload_n C 0 dX7_chooses_118 rfl ?_
    refine ok_aload_n C 0 dX7_chooses_119 rfl ?_
    refine ok_iload_n C 1 dX7_chooses_120 rfl ?_
    refine ok_aload_n C 0 dX7_chooses_121 rfl ?_
    refine ok_getI C frX7_298_11 dX7_chooses_122 (fun v1 => ?_)
    refine ok_callV C T [.int x1, .int v1] (F := fX7_sumFor a0 x1 v1) (ctX7_sumFor (C.2.2.2.2.2.2.2.2.1) a0 x1 v1) vlX7_304 viX7_sumFor rfl rfl (by decide) rfl (by rw [hR.1, hR.2]; decide) (Nat.le_of_ble_eq_true rfl) dX7_chooses_125 (ok_qI fun v2 s3 => ?_)
    refine ok_callV C T [.int v2] (F := fX7_laysChosen a0 v2) (ctX7_laysChosen (C.2.2.2.2.2.2.2.2.1) a0 v2) vlX7_307 viX7_laysChosen rfl rfl (by decide) rfl (by rw [hR.1, hR.2]; decide) (Nat.le_of_ble_eq_true rfl) dX7_chooses_128 (ok_qV fun s4 => ?_)
    refine ok_iconst C (v := 1) dX7_chooses_131 (by decide) ?_
    exact ok_zreturn C dX7_chooses_132
  · refine ok_iconst C (v := 0) dX7_chooses_116 (by decide) ?_
    exact ok_zreturn C dX7_chooses_117
set_option maxHeartbeats 4000000 in
theorem oX7_chooses_103 {Γ : CX} (C : OKC Γ cX7_chooses RX7 (some (.boolean))) (T : ∀ z ∈ (cx_c Γ).exceptionTable.toList, False) (hn : cx_nL Γ = 8) (hR : cx_fr Γ = 8 ∧ cx_lo Γ = 211) (hin : (cx_meth Γ).name = yX7_chooses.name) {r57 : Nat → Int32 → Int32 → Int32 → Int32 → AS → Option AR} (h57 : ∀ (a0 : Nat) (x1 : Int32) (x3 : Int32) (x5 : Int32) (x6 : Int32) (s0 : AS), OK Γ 57 [(0, .ref a0), (1, .int x1), (3, .int x3), (5, .int x5), (6, .int x6)] [] (r57 a0 x1 x3 x5 x6 s0) s0) : ∀ (a0 : Nat) (x1 : Int32) (x3 : Int32) (x5 : Int32) (x6 : Int32) (s0 : AS), OK Γ 103 [(0, .ref a0), (1, .int x1), (3, .int x3), (5, .int x5), (6, .int x6)] [] (fX7_chooses_103 r57 a0 x1 x3 x5 x6 s0) s0 := by
  intro a0 x1 x3 x5 x6 s0
  unfold fX7_chooses_103
  refine ok_iincL C 4 (c := 1) (fun v1 => [(6, .int v1), (0, .ref a0), (1, .int x1), (3, .int x3), (5, .int x5)]) dX7_chooses_103 rfl rfl (by rw [hn]; decide) (fun _ => rfl) (fun v1 => ?_)
  refine ok_goto C 57 dX7_chooses_106 (by decide) ?_
  refine OK.sub (lv' := [(0, .ref a0), (1, .int x1), (3, .int x3), (5, .int x5), (6, .int v1)]) [1, 2, 3, 4, 0] rfl ?_
  exact h57 a0 x1 x3 x5 v1 s0
set_option maxHeartbeats 4000000 in
theorem oX7_chooses_57 {Γ : CX} (C : OKC Γ cX7_chooses RX7 (some (.boolean))) (T : ∀ z ∈ (cx_c Γ).exceptionTable.toList, False) (hn : cx_nL Γ = 8) (hR : cx_fr Γ = 8 ∧ cx_lo Γ = 211) (hin : (cx_meth Γ).name = yX7_chooses.name) : ∀ (n : Nat) (a0 : Nat) (x1 : Int32) (x3 : Int32) (x5 : Int32) (x6 : Int32) (s0 : AS), OK Γ 57 [(0, .ref a0), (1, .int x1), (3, .int x3), (5, .int x5), (6, .int x6)] [] (fX7_chooses_57 n a0 x1 x3 x5 x6 s0) s0 := by
  intro n
  induction n with
  | zero => intro _ _ _ _ _ s0; exact OK.none
  | succ n ih =>
    intro a0 x1 x3 x5 x6 s0
    rw [fX7_chooses_57]
    refine ok_iload C 4 dX7_chooses_57 rfl ?_
    refine ok_iload C 3 dX7_chooses_59 rfl ?_
    refine ok_icmp_gt C 109 dX7_chooses_61 (by decide) ?_ ?_
    · refine OK.sub (lv' := [(0, .ref a0), (1, .int x1), (3, .int x3)]) [0, 1, 2] rfl ?_
      exact oX7_chooses_109 C T hn hR hin a0 x1 x3 s0
    · refine ok_aload_n C 0 dX7_chooses_64 rfl ?_
      refine ok_iload_n C 1 dX7_chooses_65 rfl ?_
      refine ok_iload C 4 dX7_chooses_66 rfl ?_
      refine ok_callV C T [.int x1, .int x6] (F := fX7_sumFor a0 x1 x6) (ctX7_sumFor (C.2.2.2.2.2.2.2.2.1) a0 x1 x6) vlX7_304 viX7_sumFor rfl rfl (by decide) rfl (by rw [hR.1, hR.2]; decide) (Nat.le_of_ble_eq_true rfl) dX7_chooses_68 (ok_qI fun v1 s2 => ?_)
      refine ok_istore C (i := 7) [(7, .int v1), (0, .ref a0), (1, .int x1), (3, .int x3), (5, .int x5), (6, .int x6)] dX7_chooses_71 (by rw [hn]; decide) rfl ?_
      refine ok_iload C 0 dX7_chooses_73 rfl ?_
      refine ok_if_lt C 103 dX7_chooses_75 (by decide) ?_ ?_
      · refine OK.sub (lv' := [(0, .ref a0), (1, .int x1), (3, .int x3), (5, .int x5), (6, .int x6)]) [1, 2, 3, 4, 5] rfl ?_
        exact oX7_chooses_103 C T hn hR hin ih a0 x1 x3 x5 x6 s2
      · refine ok_aload_n C 1 dX7_chooses_78 rfl ?_
        refine ok_getR C frX7_52_11 dX7_chooses_79 (fun q3 => ?_)
        refine ok_iload C 0 dX7_chooses_82 rfl ?_
        refine ok_iald C dX7_chooses_84 (fun v4 => ?_)
        refine ok_iload_n C 3 dX7_chooses_85 rfl ?_
        refine ok_icmp_ge C 103 dX7_chooses_86 (by decide) ?_ ?_
        · refine OK.sub (lv' := [(0, .ref a0), (1, .int x1), (3, .int x3), (5, .int x5), (6, .int x6)]) [1, 2, 3, 4, 5] rfl ?_
          exact oX7_chooses_103 C T hn hR hin ih a0 x1 x3 x5 x6 s2
        · refine ok_aload_n C 1 dX7_chooses_89 rfl ?_
          refine ok_getR C frX7_52_11 dX7_chooses_90 (fun q5 => ?_)
          refine ok_iload C 0 dX7_chooses_93 rfl ?_
          refine ok_iald C dX7_chooses_95 (fun v6 => ?_)
          refine ok_istore_n C (i := 3) [(3, .int v6), (7, .int v1), (0, .ref a0), (1, .int x1), (5, .int x5), (6, .int x6)] dX7_chooses_96 rfl (by rw [hn]; decide) rfl ?_
          refine ok_aload_n C 2 dX7_chooses_97 rfl ?_
          refine ok_iload C 5 dX7_chooses_98 rfl ?_
          refine ok_putI C flX7_298_11 dX7_chooses_100 (fun s7 _ => ?_)
          refine OK.sub (lv' := [(0, .ref a0), (1, .int x1), (3, .int v6), (5, .int x5), (6, .int x6)]) [2, 3, 0, 4, 5] rfl ?_
          exact oX7_chooses_103 C T hn hR hin ih a0 x1 v6 x5 x6 s7
set_option maxHeartbeats 4000000 in
theorem oX7_chooses_51 {Γ : CX} (C : OKC Γ cX7_chooses RX7 (some (.boolean))) (T : ∀ z ∈ (cx_c Γ).exceptionTable.toList, False) (hn : cx_nL Γ = 8) (hR : cx_fr Γ = 8 ∧ cx_lo Γ = 211) (hin : (cx_meth Γ).name = yX7_chooses.name) : ∀ (a0 : Nat) (x1 : Int32) (x3 : Int32) (x4 : Int32) (t0 : Int32) (s0 : AS), OK Γ 51 [(0, .ref a0), (1, .int x1), (3, .int x3), (4, .int x4)] [.int t0] (fX7_chooses_51  a0 x1 x3 x4 t0 s0) s0 := by
  intro a0 x1 x3 x4 t0 s0
  unfold fX7_chooses_51
  refine ok_istore C (i := 5) [(5, .int t0), (0, .ref a0), (1, .int x1), (3, .int x3), (4, .int x4)] dX7_chooses_51 (by rw [hn]; decide) rfl ?_
  refine ok_iload C 4 dX7_chooses_53 rfl ?_
  refine ok_istore C (i := 6) [(6, .int x4), (5, .int t0), (0, .ref a0), (1, .int x1), (3, .int x3), (4, .int x4)] dX7_chooses_55 (by rw [hn]; decide) rfl ?_
  refine OK.sub (lv' := [(0, .ref a0), (1, .int x1), (3, .int x3), (5, .int t0), (6, .int x4)]) [2, 3, 4, 1, 0] rfl ?_
  exact oX7_chooses_57 C T hn hR hin FU a0 x1 x3 t0 x4 s0
set_option maxHeartbeats 4000000 in
theorem oX7_chooses_33 {Γ : CX} (C : OKC Γ cX7_chooses RX7 (some (.boolean))) (T : ∀ z ∈ (cx_c Γ).exceptionTable.toList, False) (hn : cx_nL Γ = 8) (hR : cx_fr Γ = 8 ∧ cx_lo Γ = 211) (hin : (cx_meth Γ).name = yX7_chooses.name) : ∀ (a0 : Nat) (x1 : Int32) (x3 : Int32) (t0 : Int32) (s0 : AS), OK Γ 33 [(0, .ref a0), (1, .int x1), (3, .int x3)] [.int t0] (fX7_chooses_33  a0 x1 x3 t0 s0) s0 := by
  intro a0 x1 x3 t0 s0
  unfold fX7_chooses_33
  refine ok_istore C (i := 4) [(4, .int t0), (0, .ref a0), (1, .int x1), (3, .int x3)] dX7_chooses_33 (by rw [hn]; decide) rfl ?_
  refine ok_aload_n C 1 dX7_chooses_35 rfl ?_
  refine ok_iload_n C 2 dX7_chooses_36 rfl ?_
  refine ok_callV C T [.int x1] (F := fX7_canOpen a0 x1) (ctX7_canOpen (C.2.2.2.2.2.2.2.2.1) a0 x1) vlX7_301 viX7_canOpen rfl rfl (by decide) rfl (by rw [hR.1, hR.2]; decide) (Nat.le_of_ble_eq_true rfl) dX7_chooses_37 (ok_qI fun v1 s2 => ?_)
  refine ok_if_eq C 50 dX7_chooses_40 (by decide) ?_ ?_
  · refine ok_iconst C (v := (-1)) dX7_chooses_50 (by decide) ?_
    refine OK.sub (lv' := [(0, .ref a0), (1, .int x1), (3, .int x3), (4, .int t0)]) [1, 2, 3, 0] rfl ?_
    exact oX7_chooses_51 C T hn hR hin a0 x1 x3 t0 ((-1)) s2
  · refine ok_aload_n C 1 dX7_chooses_43 rfl ?_
    refine ok_getI C frX7_160_11 dX7_chooses_44 (fun v3 => ?_)
    refine ok_goto C 51 dX7_chooses_47 (by decide) ?_
    refine OK.sub (lv' := [(0, .ref a0), (1, .int x1), (3, .int x3), (4, .int t0)]) [1, 2, 3, 0] rfl ?_
    exact oX7_chooses_51 C T hn hR hin a0 x1 x3 t0 v3 s2
set_option maxHeartbeats 4000000 in
theorem oX7_chooses {Γ : CX} (C : OKC Γ cX7_chooses RX7 (some (.boolean))) (T : ∀ z ∈ (cx_c Γ).exceptionTable.toList, False) (hn : cx_nL Γ = 8) (hR : cx_fr Γ = 8 ∧ cx_lo Γ = 211) (hin : (cx_meth Γ).name = yX7_chooses.name) : ∀ (a0 : Nat) (x1 : Int32) (s0 : AS), OK Γ 0 [(0, .ref a0), (1, .int x1)] [] (fX7_chooses a0 x1 s0) s0 := by
  intro a0 x1 s0
  unfold fX7_chooses
  refine ok_aload_n C 0 dX7_chooses_0 rfl ?_
  refine ok_iload_n C 1 dX7_chooses_1 rfl ?_
  refine ok_callV C T [.int x1] (F := fX7_need a0 x1) (ctX7_need (C.2.2.2.2.2.2.2.2.1) a0 x1) vlX7_292 viX7_need rfl rfl (by decide) rfl (by rw [hR.1, hR.2]; decide) (Nat.le_of_ble_eq_true rfl) dX7_chooses_2 (ok_qI fun v1 s2 => ?_)
  refine ok_istore_n C (i := 2) [(2, .int v1), (0, .ref a0), (1, .int x1)] dX7_chooses_5 rfl (by rw [hn]; decide) rfl ?_
  refine ok_aload_n C 1 dX7_chooses_6 rfl ?_
  refine ok_iload_n C 0 dX7_chooses_7 rfl ?_
  refine ok_callV C T [.int v1] (F := fX7_laysFewest a0 v1) (ctX7_laysFewest (C.2.2.2.2.2.2.2.2.1) a0 v1) vlX7_295 viX7_laysFewest rfl rfl (by decide) rfl (by rw [hR.1, hR.2]; decide) (Nat.le_of_ble_eq_true rfl) dX7_chooses_8 (ok_qV fun s3 => ?_)
  refine ok_ldcw C (v := 1000000) kw_915 dX7_chooses_11 ?_
  refine ok_istore_n C (i := 3) [(3, .int 1000000), (2, .int v1), (0, .ref a0), (1, .int x1)] dX7_chooses_14 rfl (by rw [hn]; decide) rfl ?_
  refine ok_aload_n C 2 dX7_chooses_15 rfl ?_
  refine ok_iconst C (v := (-1)) dX7_chooses_16 (by decide) ?_
  refine ok_putI C flX7_298_11 dX7_chooses_17 (fun s4 _ => ?_)
  refine ok_aload_n C 2 dX7_chooses_20 rfl ?_
  refine ok_iload_n C 3 dX7_chooses_21 rfl ?_
  refine ok_callV C T [.int x1] (F := fX7_canOpen a0 x1) (ctX7_canOpen (C.2.2.2.2.2.2.2.2.1) a0 x1) vlX7_301 viX7_canOpen rfl rfl (by decide) rfl (by rw [hR.1, hR.2]; decide) (Nat.le_of_ble_eq_true rfl) dX7_chooses_22 (ok_qI fun v5 s6 => ?_)
  refine ok_if_eq C 32 dX7_chooses_25 (by decide) ?_ ?_
  · refine ok_iconst C (v := (-1)) dX7_chooses_32 (by decide) ?_
    refine OK.sub (lv' := [(0, .ref a0), (1, .int x1), (3, .int 1000000)]) [2, 3, 0] rfl ?_
    exact oX7_chooses_33 C T hn hR hin a0 x1 1000000 ((-1)) s6
  · refine ok_iconst C (v := 0) dX7_chooses_28 (by decide) ?_
    refine ok_goto C 33 dX7_chooses_29 (by decide) ?_
    refine OK.sub (lv' := [(0, .ref a0), (1, .int x1), (3, .int 1000000)]) [2, 3, 0] rfl ?_
    exact oX7_chooses_33 C T hn hR hin a0 x1 1000000 0 s6
theorem ctX7_chooses {l : Launch} (hl : l.stackTraces = false) {D : va_G} {dA : Nat → ClassId} {B0 : Nat} (a0 : Nat) (x1 : Int32) : Ct l D dA B0 yX7_chooses (.code yX7_chooses cX7_chooses 8 (some (.boolean)) :: ax_ALL) 8 211 [.ref a0, .int x1] (fX7_chooses a0 x1) :=
  Ct.of hl (by decide +kernel) (Nat.le_of_ble_eq_true rfl) fun Γ C _ _ _ _ e5 e6 e7 T hin => oX7_chooses C T e5 ⟨e6, e7⟩ hin a0 x1 _
/-! ChaseLockerModel.chosenMany(Z)I -/
def fX7_chosenMany_36 (r4 : Nat → Int32 → Int32 → Int32 → AS → Option AR) (a0 : Nat) (x1 : Int32) (x3 : Int32) (t0 : Int32) (t1 : Int32) (s0 : AS) : Option AR :=
  lt (t0 + t1) (fun v1 =>
  lt (x3 + 1) (fun v2 =>
  r4 a0 x1 v1 v2 s0))
def fX7_chosenMany_30 (r4 : Nat → Int32 → Int32 → Int32 → AS → Option AR) (a0 : Nat) (x1 : Int32) (x3 : Int32) (t0 : Int32) (s0 : AS) : Option AR :=
  gR s0 a0 11 35 (fun q1 =>
  aI s0 q1 100 x3 (fun v2 =>
  fX7_chosenMany_36 r4 a0 x1 x3 t0 v2 s0))
def fX7_chosenMany_4  : Nat → Nat → Int32 → Int32 → Int32 → AS → Option AR
  | 0, _, _, _, _, _ => none
  | n + 1, a0, x1, x2, x3, s0 =>
    gI s0 a0 11 9 (fun v1 =>
    if v1 ≤ x3 then (
      some (.inl (some (.int x2)), s0))
    else (
      if x1 = 0 then (
        fX7_chosenMany_30 (fX7_chosenMany_4 n) a0 x1 x3 x2 s0)
      else (
        gR s0 a0 11 10 (fun q2 =>
        aI s0 q2 101 x3 (fun v3 =>
        if v3 = 0 then (
          fX7_chosenMany_30 (fX7_chosenMany_4 n) a0 x1 x3 x2 s0)
        else (
          fX7_chosenMany_36 (fX7_chosenMany_4 n) a0 x1 x3 x2 0 s0))))))
def fX7_chosenMany (a0 : Nat) (x1 : Int32) (s0 : AS) : Option AR :=
  fX7_chosenMany_4 FU a0 x1 0 0 s0
set_option maxHeartbeats 4000000 in
theorem oX7_chosenMany_36 {Γ : CX} (C : OKC Γ cX7_chosenMany RX7 (some (.int))) (T : ∀ z ∈ (cx_c Γ).exceptionTable.toList, False) (hn : cx_nL Γ = 4) (hR : cx_fr Γ = 1 ∧ cx_lo Γ = 60) (hin : (cx_meth Γ).name = yX7_chosenMany.name) {r4 : Nat → Int32 → Int32 → Int32 → AS → Option AR} (h4 : ∀ (a0 : Nat) (x1 : Int32) (x2 : Int32) (x3 : Int32) (s0 : AS), OK Γ 4 [(0, .ref a0), (1, .int x1), (2, .int x2), (3, .int x3)] [] (r4 a0 x1 x2 x3 s0) s0) : ∀ (a0 : Nat) (x1 : Int32) (x3 : Int32) (t0 : Int32) (t1 : Int32) (s0 : AS), OK Γ 36 [(0, .ref a0), (1, .int x1), (3, .int x3)] [.int t1, .int t0] (fX7_chosenMany_36 r4 a0 x1 x3 t0 t1 s0) s0 := by
  intro a0 x1 x3 t0 t1 s0
  unfold fX7_chosenMany_36
  refine ok_iadd C dX7_chosenMany_36 ?_
  refine ok_lt (fun v1 => ?_)
  refine ok_istore_n C (i := 2) [(2, .int v1), (0, .ref a0), (1, .int x1), (3, .int x3)] dX7_chosenMany_37 rfl (by rw [hn]; decide) rfl ?_
  refine ok_iincL C 3 (c := 1) (fun v2 => [(3, .int v2), (2, .int v1), (0, .ref a0), (1, .int x1)]) dX7_chosenMany_38 rfl rfl (by rw [hn]; decide) (fun _ => rfl) (fun v2 => ?_)
  refine ok_goto C 4 dX7_chosenMany_41 (by decide) ?_
  refine OK.sub (lv' := [(0, .ref a0), (1, .int x1), (2, .int v1), (3, .int v2)]) [2, 3, 1, 0] rfl ?_
  exact h4 a0 x1 v1 v2 s0
set_option maxHeartbeats 4000000 in
theorem oX7_chosenMany_30 {Γ : CX} (C : OKC Γ cX7_chosenMany RX7 (some (.int))) (T : ∀ z ∈ (cx_c Γ).exceptionTable.toList, False) (hn : cx_nL Γ = 4) (hR : cx_fr Γ = 1 ∧ cx_lo Γ = 60) (hin : (cx_meth Γ).name = yX7_chosenMany.name) {r4 : Nat → Int32 → Int32 → Int32 → AS → Option AR} (h4 : ∀ (a0 : Nat) (x1 : Int32) (x2 : Int32) (x3 : Int32) (s0 : AS), OK Γ 4 [(0, .ref a0), (1, .int x1), (2, .int x2), (3, .int x3)] [] (r4 a0 x1 x2 x3 s0) s0) : ∀ (a0 : Nat) (x1 : Int32) (x3 : Int32) (t0 : Int32) (s0 : AS), OK Γ 30 [(0, .ref a0), (1, .int x1), (3, .int x3)] [.int t0] (fX7_chosenMany_30 r4 a0 x1 x3 t0 s0) s0 := by
  intro a0 x1 x3 t0 s0
  unfold fX7_chosenMany_30
  refine ok_aload_n C 0 dX7_chosenMany_30 rfl ?_
  refine ok_getR C frX7_55_11 dX7_chosenMany_31 (fun q1 => ?_)
  refine ok_iload_n C 2 dX7_chosenMany_34 rfl ?_
  refine ok_iald C dX7_chosenMany_35 (fun v2 => ?_)
  exact oX7_chosenMany_36 C T hn hR hin h4 a0 x1 x3 t0 v2 s0
set_option maxHeartbeats 4000000 in
theorem oX7_chosenMany_4 {Γ : CX} (C : OKC Γ cX7_chosenMany RX7 (some (.int))) (T : ∀ z ∈ (cx_c Γ).exceptionTable.toList, False) (hn : cx_nL Γ = 4) (hR : cx_fr Γ = 1 ∧ cx_lo Γ = 60) (hin : (cx_meth Γ).name = yX7_chosenMany.name) : ∀ (n : Nat) (a0 : Nat) (x1 : Int32) (x2 : Int32) (x3 : Int32) (s0 : AS), OK Γ 4 [(0, .ref a0), (1, .int x1), (2, .int x2), (3, .int x3)] [] (fX7_chosenMany_4 n a0 x1 x2 x3 s0) s0 := by
  intro n
  induction n with
  | zero => intro _ _ _ _ s0; exact OK.none
  | succ n ih =>
    intro a0 x1 x2 x3 s0
    rw [fX7_chosenMany_4]
    refine ok_iload_n C 3 dX7_chosenMany_4 rfl ?_
    refine ok_aload_n C 0 dX7_chosenMany_5 rfl ?_
    refine ok_getI C frX7_172_11 dX7_chosenMany_6 (fun v1 => ?_)
    refine ok_icmp_ge C 44 dX7_chosenMany_9 (by decide) ?_ ?_
    · refine ok_iload_n C 2 dX7_chosenMany_44 rfl ?_
      exact ok_ireturn C dX7_chosenMany_45
    · refine ok_iload_n C 2 dX7_chosenMany_12 rfl ?_
      refine ok_iload_n C 1 dX7_chosenMany_13 rfl ?_
      refine ok_if_eq C 30 dX7_chosenMany_14 (by decide) ?_ ?_
      · refine OK.sub (lv' := [(0, .ref a0), (1, .int x1), (3, .int x3)]) [0, 1, 3] rfl ?_
        exact oX7_chosenMany_30 C T hn hR hin ih a0 x1 x3 x2 s0
      · refine ok_aload_n C 0 dX7_chosenMany_17 rfl ?_
        refine ok_getR C frX7_7_11 dX7_chosenMany_18 (fun q2 => ?_)
        refine ok_iload_n C 3 dX7_chosenMany_21 rfl ?_
        refine ok_zald C dX7_chosenMany_22 (fun v3 => ?_)
        refine ok_if_eq C 30 dX7_chosenMany_23 (by decide) ?_ ?_
        · refine OK.sub (lv' := [(0, .ref a0), (1, .int x1), (3, .int x3)]) [0, 1, 3] rfl ?_
          exact oX7_chosenMany_30 C T hn hR hin ih a0 x1 x3 x2 s0
        · refine ok_iconst C (v := 0) dX7_chosenMany_26 (by decide) ?_
          refine ok_goto C 36 dX7_chosenMany_27 (by decide) ?_
          refine OK.sub (lv' := [(0, .ref a0), (1, .int x1), (3, .int x3)]) [0, 1, 3] rfl ?_
          exact oX7_chosenMany_36 C T hn hR hin ih a0 x1 x3 x2 0 s0
set_option maxHeartbeats 4000000 in
theorem oX7_chosenMany {Γ : CX} (C : OKC Γ cX7_chosenMany RX7 (some (.int))) (T : ∀ z ∈ (cx_c Γ).exceptionTable.toList, False) (hn : cx_nL Γ = 4) (hR : cx_fr Γ = 1 ∧ cx_lo Γ = 60) (hin : (cx_meth Γ).name = yX7_chosenMany.name) : ∀ (a0 : Nat) (x1 : Int32) (s0 : AS), OK Γ 0 [(0, .ref a0), (1, .int x1)] [] (fX7_chosenMany a0 x1 s0) s0 := by
  intro a0 x1 s0
  unfold fX7_chosenMany
  refine ok_iconst C (v := 0) dX7_chosenMany_0 (by decide) ?_
  refine ok_istore_n C (i := 2) [(2, .int 0), (0, .ref a0), (1, .int x1)] dX7_chosenMany_1 rfl (by rw [hn]; decide) rfl ?_
  refine ok_iconst C (v := 0) dX7_chosenMany_2 (by decide) ?_
  refine ok_istore_n C (i := 3) [(3, .int 0), (2, .int 0), (0, .ref a0), (1, .int x1)] dX7_chosenMany_3 rfl (by rw [hn]; decide) rfl ?_
  refine OK.sub (lv' := [(0, .ref a0), (1, .int x1), (2, .int 0), (3, .int 0)]) [2, 3, 1, 0] rfl ?_
  exact oX7_chosenMany_4 C T hn hR hin FU a0 x1 0 0 s0
theorem ctX7_chosenMany {l : Launch} (hl : l.stackTraces = false) {D : va_G} {dA : Nat → ClassId} {B0 : Nat} (a0 : Nat) (x1 : Int32) : Ct l D dA B0 yX7_chosenMany (.code yX7_chosenMany cX7_chosenMany 4 (some (.int)) :: ax_ALL) 1 60 [.ref a0, .int x1] (fX7_chosenMany a0 x1) :=
  Ct.of hl (by decide +kernel) (Nat.le_of_ble_eq_true rfl) fun Γ C _ _ _ _ e5 e6 e7 T hin => oX7_chosenMany C T e5 ⟨e6, e7⟩ hin a0 x1 _
/-! ChaseLockerModel.chosenLong()I -/
def fX7_chosenLong_4  : Nat → Nat → Int32 → Int32 → AS → Option AR
  | 0, _, _, _, _ => none
  | n + 1, a0, x1, x2, s0 =>
    gI s0 a0 11 9 (fun v1 =>
    if v1 ≤ x2 then (
      some (.inl (some (.int x1)), s0))
    else (
      gR s0 a0 11 35 (fun q2 =>
      aI s0 q2 100 x2 (fun v3 =>
      gR s0 a0 11 11 (fun q4 =>
      aI s0 q4 100 x2 (fun v5 =>
      lt (x1 + (v3 * v5)) (fun v6 =>
      lt (x2 + 1) (fun v7 =>
      fX7_chosenLong_4 n a0 v6 v7 s0))))))))
def fX7_chosenLong (a0 : Nat) (s0 : AS) : Option AR :=
  fX7_chosenLong_4 FU a0 0 0 s0
set_option maxHeartbeats 4000000 in
theorem oX7_chosenLong_4 {Γ : CX} (C : OKC Γ cX7_chosenLong RX7 (some (.int))) (T : ∀ z ∈ (cx_c Γ).exceptionTable.toList, False) (hn : cx_nL Γ = 3) (hR : cx_fr Γ = 1 ∧ cx_lo Γ = 60) (hin : (cx_meth Γ).name = yX7_chosenLong.name) : ∀ (n : Nat) (a0 : Nat) (x1 : Int32) (x2 : Int32) (s0 : AS), OK Γ 4 [(0, .ref a0), (1, .int x1), (2, .int x2)] [] (fX7_chosenLong_4 n a0 x1 x2 s0) s0 := by
  intro n
  induction n with
  | zero => intro _ _ _ s0; exact OK.none
  | succ n ih =>
    intro a0 x1 x2 s0
    rw [fX7_chosenLong_4]
    refine ok_iload_n C 2 dX7_chosenLong_4 rfl ?_
    refine ok_aload_n C 0 dX7_chosenLong_5 rfl ?_
    refine ok_getI C frX7_172_11 dX7_chosenLong_6 (fun v1 => ?_)
    refine ok_icmp_ge C 34 dX7_chosenLong_9 (by decide) ?_ ?_
    · refine ok_iload_n C 1 dX7_chosenLong_34 rfl ?_
      exact ok_ireturn C dX7_chosenLong_35
    · refine ok_iload_n C 1 dX7_chosenLong_12 rfl ?_
      refine ok_aload_n C 0 dX7_chosenLong_13 rfl ?_
      refine ok_getR C frX7_55_11 dX7_chosenLong_14 (fun q2 => ?_)
      refine ok_iload_n C 2 dX7_chosenLong_17 rfl ?_
      refine ok_iald C dX7_chosenLong_18 (fun v3 => ?_)
      refine ok_aload_n C 0 dX7_chosenLong_19 rfl ?_
      refine ok_getR C frX7_13_11 dX7_chosenLong_20 (fun q4 => ?_)
      refine ok_iload_n C 2 dX7_chosenLong_23 rfl ?_
      refine ok_iald C dX7_chosenLong_24 (fun v5 => ?_)
      refine ok_imul C dX7_chosenLong_25 ?_
      refine ok_iadd C dX7_chosenLong_26 ?_
      refine ok_lt (fun v6 => ?_)
      refine ok_istore_n C (i := 1) [(1, .int v6), (0, .ref a0), (2, .int x2)] dX7_chosenLong_27 rfl (by rw [hn]; decide) rfl ?_
      refine ok_iincL C 2 (c := 1) (fun v7 => [(2, .int v7), (1, .int v6), (0, .ref a0)]) dX7_chosenLong_28 rfl rfl (by rw [hn]; decide) (fun _ => rfl) (fun v7 => ?_)
      refine ok_goto C 4 dX7_chosenLong_31 (by decide) ?_
      refine OK.sub (lv' := [(0, .ref a0), (1, .int v6), (2, .int v7)]) [2, 1, 0] rfl ?_
      exact ih a0 v6 v7 s0
set_option maxHeartbeats 4000000 in
theorem oX7_chosenLong {Γ : CX} (C : OKC Γ cX7_chosenLong RX7 (some (.int))) (T : ∀ z ∈ (cx_c Γ).exceptionTable.toList, False) (hn : cx_nL Γ = 3) (hR : cx_fr Γ = 1 ∧ cx_lo Γ = 60) (hin : (cx_meth Γ).name = yX7_chosenLong.name) : ∀ (a0 : Nat) (s0 : AS), OK Γ 0 [(0, .ref a0)] [] (fX7_chosenLong a0 s0) s0 := by
  intro a0 s0
  unfold fX7_chosenLong
  refine ok_iconst C (v := 0) dX7_chosenLong_0 (by decide) ?_
  refine ok_istore_n C (i := 1) [(1, .int 0), (0, .ref a0)] dX7_chosenLong_1 rfl (by rw [hn]; decide) rfl ?_
  refine ok_iconst C (v := 0) dX7_chosenLong_2 (by decide) ?_
  refine ok_istore_n C (i := 2) [(2, .int 0), (1, .int 0), (0, .ref a0)] dX7_chosenLong_3 rfl (by rw [hn]; decide) rfl ?_
  refine OK.sub (lv' := [(0, .ref a0), (1, .int 0), (2, .int 0)]) [2, 1, 0] rfl ?_
  exact oX7_chosenLong_4 C T hn hR hin FU a0 0 0 s0
theorem ctX7_chosenLong {l : Launch} (hl : l.stackTraces = false) {D : va_G} {dA : Nat → ClassId} {B0 : Nat} (a0 : Nat) : Ct l D dA B0 yX7_chosenLong (.code yX7_chosenLong cX7_chosenLong 3 (some (.int)) :: ax_ALL) 1 60 [.ref a0] (fX7_chosenLong a0) :=
  Ct.of hl (by decide +kernel) (Nat.le_of_ble_eq_true rfl) fun Γ C _ _ _ _ e5 e6 e7 T hin => oX7_chosenLong C T e5 ⟨e6, e7⟩ hin a0 _
/-! ChaseLockerModel.laysWays(I)V -/
def fX7_laysWays_121 (r33 : Nat → Int32 → Int32 → AS → Option AR) (a0 : Nat) (x1 : Int32) (x2 : Int32) (s0 : AS) : Option AR :=
  lt (x2 + 1) (fun v1 =>
  r33 a0 x1 v1 s0)
def fX7_laysWays_107 (r33 : Nat → Int32 → Int32 → AS → Option AR) (r43 : Nat → Int32 → Int32 → Int32 → AS → Option AR) (a0 : Nat) (x1 : Int32) (x2 : Int32) (x3 : Int32) (x4 : Int32) (s0 : AS) : Option AR :=
  gR s0 a0 11 38 (fun q1 =>
  uI s0 q1 x3 x4 (fun s2 =>
  lt (x3 + (-1)) (fun v3 =>
  r43 a0 x1 x2 v3 s2)))
def fX7_laysWays_53 (r33 : Nat → Int32 → Int32 → AS → Option AR) (r43 : Nat → Int32 → Int32 → Int32 → AS → Option AR) : Nat → Nat → Int32 → Int32 → Int32 → Int32 → Int32 → AS → Option AR
  | 0, _, _, _, _, _, _, _ => none
  | n + 1, a0, x1, x2, x3, x4, x5, s0 =>
    cV s0 a0 11 (fX7_leftOf a0 x2 s0) (qI (fun v1 s2 =>
    if v1 < x5 then (
      fX7_laysWays_107 r33 r43 a0 x1 x2 x3 x4 s2)
    else (
      gR s2 a0 11 11 (fun q3 =>
      aI s2 q3 100 x2 (fun v4 =>
      if x3 < (x5 * v4) then (
        fX7_laysWays_107 r33 r43 a0 x1 x2 x3 x4 s2)
      else (
        gR s2 a0 11 38 (fun q5 =>
        gR s2 a0 11 11 (fun q6 =>
        aI s2 q6 100 x2 (fun v7 =>
        aI s2 q5 100 (x3 - (x5 * v7)) (fun v8 =>
        if (1000003 : Int32) = 0 then none else (
        lt ((x4 + v8) - (x4 + v8) / 1000003 * 1000003) (fun v9 =>
        lt (x5 + 1) (fun v10 =>
        fX7_laysWays_53 r33 r43 n a0 x1 x2 x3 v9 v10 s2)))))))))))))
def fX7_laysWays_43 (r33 : Nat → Int32 → Int32 → AS → Option AR) : Nat → Nat → Int32 → Int32 → Int32 → AS → Option AR
  | 0, _, _, _, _, _ => none
  | n + 1, a0, x1, x2, x3, s0 =>
    if x3 < 0 then (
      fX7_laysWays_121 r33 a0 x1 x2 s0)
    else (
      fX7_laysWays_53 r33 (fX7_laysWays_43 r33 n) FU a0 x1 x2 x3 0 0 s0)
def fX7_laysWays_33  : Nat → Nat → Int32 → Int32 → AS → Option AR
  | 0, _, _, _, _ => none
  | n + 1, a0, x1, x2, s0 =>
    gI s0 a0 11 9 (fun v1 =>
    if v1 ≤ x2 then (
      some (.inl none, s0))
    else (
      fX7_laysWays_43 (fX7_laysWays_33 n) FU a0 x1 x2 x1 s0))
def fX7_laysWays_31  (a0 : Nat) (x1 : Int32) (s0 : AS) : Option AR :=
  fX7_laysWays_33 FU a0 x1 0 s0
def fX7_laysWays_21 (r2 : Nat → Int32 → Int32 → AS → Option AR) (a0 : Nat) (x1 : Int32) (x2 : Int32) (t0 : Nat) (t1 : Int32) (t2 : Int32) (s0 : AS) : Option AR :=
  cS s0 (fX7_flag t2 s0) (qI (fun v1 s2 =>
  uI s2 t0 t1 v1 (fun s3 =>
  lt (x2 + 1) (fun v4 =>
  r2 a0 x1 v4 s3))))
def fX7_laysWays_2  : Nat → Nat → Int32 → Int32 → AS → Option AR
  | 0, _, _, _, _ => none
  | n + 1, a0, x1, x2, s0 =>
    if x1 < x2 then (
      fX7_laysWays_31 a0 x1 s0)
    else (
      gR s0 a0 11 38 (fun q1 =>
      if x2 = 0 then (
        fX7_laysWays_21 (fX7_laysWays_2 n) a0 x1 x2 q1 x2 1 s0)
      else (
        fX7_laysWays_21 (fX7_laysWays_2 n) a0 x1 x2 q1 x2 0 s0)))
def fX7_laysWays (a0 : Nat) (x1 : Int32) (s0 : AS) : Option AR :=
  fX7_laysWays_2 FU a0 x1 0 s0
set_option maxHeartbeats 4000000 in
theorem oX7_laysWays_121 {Γ : CX} (C : OKC Γ cX7_laysWays RX7 none) (T : ∀ z ∈ (cx_c Γ).exceptionTable.toList, False) (hn : cx_nL Γ = 6) (hR : cx_fr Γ = 3 ∧ cx_lo Γ = 101) (hin : (cx_meth Γ).name = yX7_laysWays.name) {r33 : Nat → Int32 → Int32 → AS → Option AR} (h33 : ∀ (a0 : Nat) (x1 : Int32) (x2 : Int32) (s0 : AS), OK Γ 33 [(0, .ref a0), (1, .int x1), (2, .int x2)] [] (r33 a0 x1 x2 s0) s0) : ∀ (a0 : Nat) (x1 : Int32) (x2 : Int32) (s0 : AS), OK Γ 121 [(0, .ref a0), (1, .int x1), (2, .int x2)] [] (fX7_laysWays_121 r33 a0 x1 x2 s0) s0 := by
  intro a0 x1 x2 s0
  unfold fX7_laysWays_121
  refine ok_iincL C 2 (c := 1) (fun v1 => [(2, .int v1), (0, .ref a0), (1, .int x1)]) dX7_laysWays_121 rfl rfl (by rw [hn]; decide) (fun _ => rfl) (fun v1 => ?_)
  refine ok_goto C 33 dX7_laysWays_124 (by decide) ?_
  refine OK.sub (lv' := [(0, .ref a0), (1, .int x1), (2, .int v1)]) [1, 2, 0] rfl ?_
  exact h33 a0 x1 v1 s0
set_option maxHeartbeats 4000000 in
theorem oX7_laysWays_107 {Γ : CX} (C : OKC Γ cX7_laysWays RX7 none) (T : ∀ z ∈ (cx_c Γ).exceptionTable.toList, False) (hn : cx_nL Γ = 6) (hR : cx_fr Γ = 3 ∧ cx_lo Γ = 101) (hin : (cx_meth Γ).name = yX7_laysWays.name) {r33 : Nat → Int32 → Int32 → AS → Option AR} {r43 : Nat → Int32 → Int32 → Int32 → AS → Option AR} (h33 : ∀ (a0 : Nat) (x1 : Int32) (x2 : Int32) (s0 : AS), OK Γ 33 [(0, .ref a0), (1, .int x1), (2, .int x2)] [] (r33 a0 x1 x2 s0) s0) (h43 : ∀ (a0 : Nat) (x1 : Int32) (x2 : Int32) (x3 : Int32) (s0 : AS), OK Γ 43 [(0, .ref a0), (1, .int x1), (2, .int x2), (3, .int x3)] [] (r43 a0 x1 x2 x3 s0) s0) : ∀ (a0 : Nat) (x1 : Int32) (x2 : Int32) (x3 : Int32) (x4 : Int32) (s0 : AS), OK Γ 107 [(0, .ref a0), (1, .int x1), (2, .int x2), (3, .int x3), (4, .int x4)] [] (fX7_laysWays_107 r33 r43 a0 x1 x2 x3 x4 s0) s0 := by
  intro a0 x1 x2 x3 x4 s0
  unfold fX7_laysWays_107
  refine ok_aload_n C 0 dX7_laysWays_107 rfl ?_
  refine ok_getR C frX7_61_11 dX7_laysWays_108 (fun q1 => ?_)
  refine ok_iload_n C 3 dX7_laysWays_111 rfl ?_
  refine ok_iload C 4 dX7_laysWays_112 rfl ?_
  refine ok_iast C dX7_laysWays_114 (fun s2 _ => ?_)
  refine ok_iincL C 3 (c := (-1)) (fun v3 => [(3, .int v3), (0, .ref a0), (1, .int x1), (2, .int x2), (4, .int x4)]) dX7_laysWays_115 rfl rfl (by rw [hn]; decide) (fun _ => rfl) (fun v3 => ?_)
  refine ok_goto C 43 dX7_laysWays_118 (by decide) ?_
  refine OK.sub (lv' := [(0, .ref a0), (1, .int x1), (2, .int x2), (3, .int v3)]) [1, 2, 3, 0] rfl ?_
  exact h43 a0 x1 x2 v3 s2
set_option maxHeartbeats 4000000 in
theorem oX7_laysWays_53 {Γ : CX} (C : OKC Γ cX7_laysWays RX7 none) (T : ∀ z ∈ (cx_c Γ).exceptionTable.toList, False) (hn : cx_nL Γ = 6) (hR : cx_fr Γ = 3 ∧ cx_lo Γ = 101) (hin : (cx_meth Γ).name = yX7_laysWays.name) {r33 : Nat → Int32 → Int32 → AS → Option AR} {r43 : Nat → Int32 → Int32 → Int32 → AS → Option AR} (h33 : ∀ (a0 : Nat) (x1 : Int32) (x2 : Int32) (s0 : AS), OK Γ 33 [(0, .ref a0), (1, .int x1), (2, .int x2)] [] (r33 a0 x1 x2 s0) s0) (h43 : ∀ (a0 : Nat) (x1 : Int32) (x2 : Int32) (x3 : Int32) (s0 : AS), OK Γ 43 [(0, .ref a0), (1, .int x1), (2, .int x2), (3, .int x3)] [] (r43 a0 x1 x2 x3 s0) s0) : ∀ (n : Nat) (a0 : Nat) (x1 : Int32) (x2 : Int32) (x3 : Int32) (x4 : Int32) (x5 : Int32) (s0 : AS), OK Γ 53 [(0, .ref a0), (1, .int x1), (2, .int x2), (3, .int x3), (4, .int x4), (5, .int x5)] [] (fX7_laysWays_53 r33 r43 n a0 x1 x2 x3 x4 x5 s0) s0 := by
  intro n
  induction n with
  | zero => intro _ _ _ _ _ _ s0; exact OK.none
  | succ n ih =>
    intro a0 x1 x2 x3 x4 x5 s0
    rw [fX7_laysWays_53]
    refine ok_iload C 5 dX7_laysWays_53 rfl ?_
    refine ok_aload_n C 0 dX7_laysWays_55 rfl ?_
    refine ok_iload_n C 2 dX7_laysWays_56 rfl ?_
    refine ok_callV C T [.int x2] (F := fX7_leftOf a0 x2) (ctX7_leftOf (C.2.2.2.2.2.2.2.2.1) a0 x2) vlX7_284 viX7_leftOf rfl rfl (by decide) rfl (by rw [hR.1, hR.2]; decide) (Nat.le_of_ble_eq_true rfl) dX7_laysWays_57 (ok_qI fun v1 s2 => ?_)
    refine ok_icmp_gt C 107 dX7_laysWays_60 (by decide) ?_ ?_
    · refine OK.sub (lv' := [(0, .ref a0), (1, .int x1), (2, .int x2), (3, .int x3), (4, .int x4)]) [0, 1, 2, 3, 4] rfl ?_
      exact oX7_laysWays_107 C T hn hR hin h33 h43 a0 x1 x2 x3 x4 s2
    · refine ok_iload C 5 dX7_laysWays_63 rfl ?_
      refine ok_aload_n C 0 dX7_laysWays_65 rfl ?_
      refine ok_getR C frX7_13_11 dX7_laysWays_66 (fun q3 => ?_)
      refine ok_iload_n C 2 dX7_laysWays_69 rfl ?_
      refine ok_iald C dX7_laysWays_70 (fun v4 => ?_)
      refine ok_imul C dX7_laysWays_71 ?_
      refine ok_iload_n C 3 dX7_laysWays_72 rfl ?_
      refine ok_icmp_gt C 107 dX7_laysWays_73 (by decide) ?_ ?_
      · refine OK.sub (lv' := [(0, .ref a0), (1, .int x1), (2, .int x2), (3, .int x3), (4, .int x4)]) [0, 1, 2, 3, 4] rfl ?_
        exact oX7_laysWays_107 C T hn hR hin h33 h43 a0 x1 x2 x3 x4 s2
      · refine ok_iload C 4 dX7_laysWays_76 rfl ?_
        refine ok_aload_n C 0 dX7_laysWays_78 rfl ?_
        refine ok_getR C frX7_61_11 dX7_laysWays_79 (fun q5 => ?_)
        refine ok_iload_n C 3 dX7_laysWays_82 rfl ?_
        refine ok_iload C 5 dX7_laysWays_83 rfl ?_
        refine ok_aload_n C 0 dX7_laysWays_85 rfl ?_
        refine ok_getR C frX7_13_11 dX7_laysWays_86 (fun q6 => ?_)
        refine ok_iload_n C 2 dX7_laysWays_89 rfl ?_
        refine ok_iald C dX7_laysWays_90 (fun v7 => ?_)
        refine ok_imul C dX7_laysWays_91 ?_
        refine ok_isub C dX7_laysWays_92 ?_
        refine ok_iald C dX7_laysWays_93 (fun v8 => ?_)
        refine ok_iadd C dX7_laysWays_94 ?_
        refine ok_ldcw C (v := 1000003) kw_946 dX7_laysWays_95 ?_
        refine ok_irem C dX7_laysWays_98 ?_
        refine ok_lt (fun v9 => ?_)
        refine ok_istore C (i := 4) [(4, .int v9), (0, .ref a0), (1, .int x1), (2, .int x2), (3, .int x3), (5, .int x5)] dX7_laysWays_99 (by rw [hn]; decide) rfl ?_
        refine ok_iincL C 5 (c := 1) (fun v10 => [(5, .int v10), (4, .int v9), (0, .ref a0), (1, .int x1), (2, .int x2), (3, .int x3)]) dX7_laysWays_101 rfl rfl (by rw [hn]; decide) (fun _ => rfl) (fun v10 => ?_)
        refine ok_goto C 53 dX7_laysWays_104 (by decide) ?_
        refine OK.sub (lv' := [(0, .ref a0), (1, .int x1), (2, .int x2), (3, .int x3), (4, .int v9), (5, .int v10)]) [2, 3, 4, 5, 1, 0] rfl ?_
        exact ih a0 x1 x2 x3 v9 v10 s2
set_option maxHeartbeats 4000000 in
theorem oX7_laysWays_43 {Γ : CX} (C : OKC Γ cX7_laysWays RX7 none) (T : ∀ z ∈ (cx_c Γ).exceptionTable.toList, False) (hn : cx_nL Γ = 6) (hR : cx_fr Γ = 3 ∧ cx_lo Γ = 101) (hin : (cx_meth Γ).name = yX7_laysWays.name) {r33 : Nat → Int32 → Int32 → AS → Option AR} (h33 : ∀ (a0 : Nat) (x1 : Int32) (x2 : Int32) (s0 : AS), OK Γ 33 [(0, .ref a0), (1, .int x1), (2, .int x2)] [] (r33 a0 x1 x2 s0) s0) : ∀ (n : Nat) (a0 : Nat) (x1 : Int32) (x2 : Int32) (x3 : Int32) (s0 : AS), OK Γ 43 [(0, .ref a0), (1, .int x1), (2, .int x2), (3, .int x3)] [] (fX7_laysWays_43 r33 n a0 x1 x2 x3 s0) s0 := by
  intro n
  induction n with
  | zero => intro _ _ _ _ s0; exact OK.none
  | succ n ih =>
    intro a0 x1 x2 x3 s0
    rw [fX7_laysWays_43]
    refine ok_iload_n C 3 dX7_laysWays_43 rfl ?_
    refine ok_if_lt C 121 dX7_laysWays_44 (by decide) ?_ ?_
    · refine OK.sub (lv' := [(0, .ref a0), (1, .int x1), (2, .int x2)]) [0, 1, 2] rfl ?_
      exact oX7_laysWays_121 C T hn hR hin h33 a0 x1 x2 s0
    · refine ok_iconst C (v := 0) dX7_laysWays_47 (by decide) ?_
      refine ok_istore C (i := 4) [(4, .int 0), (0, .ref a0), (1, .int x1), (2, .int x2), (3, .int x3)] dX7_laysWays_48 (by rw [hn]; decide) rfl ?_
      refine ok_iconst C (v := 0) dX7_laysWays_50 (by decide) ?_
      refine ok_istore C (i := 5) [(5, .int 0), (4, .int 0), (0, .ref a0), (1, .int x1), (2, .int x2), (3, .int x3)] dX7_laysWays_51 (by rw [hn]; decide) rfl ?_
      refine OK.sub (lv' := [(0, .ref a0), (1, .int x1), (2, .int x2), (3, .int x3), (4, .int 0), (5, .int 0)]) [2, 3, 4, 5, 1, 0] rfl ?_
      exact oX7_laysWays_53 C T hn hR hin h33 ih FU a0 x1 x2 x3 0 0 s0
set_option maxHeartbeats 4000000 in
theorem oX7_laysWays_33 {Γ : CX} (C : OKC Γ cX7_laysWays RX7 none) (T : ∀ z ∈ (cx_c Γ).exceptionTable.toList, False) (hn : cx_nL Γ = 6) (hR : cx_fr Γ = 3 ∧ cx_lo Γ = 101) (hin : (cx_meth Γ).name = yX7_laysWays.name) : ∀ (n : Nat) (a0 : Nat) (x1 : Int32) (x2 : Int32) (s0 : AS), OK Γ 33 [(0, .ref a0), (1, .int x1), (2, .int x2)] [] (fX7_laysWays_33 n a0 x1 x2 s0) s0 := by
  intro n
  induction n with
  | zero => intro _ _ _ s0; exact OK.none
  | succ n ih =>
    intro a0 x1 x2 s0
    rw [fX7_laysWays_33]
    refine ok_iload_n C 2 dX7_laysWays_33 rfl ?_
    refine ok_aload_n C 0 dX7_laysWays_34 rfl ?_
    refine ok_getI C frX7_172_11 dX7_laysWays_35 (fun v1 => ?_)
    refine ok_icmp_ge C 127 dX7_laysWays_38 (by decide) ?_ ?_
    · exact ok_vreturn C dX7_laysWays_127
    · refine ok_iload_n C 1 dX7_laysWays_41 rfl ?_
      refine ok_istore_n C (i := 3) [(3, .int x1), (0, .ref a0), (1, .int x1), (2, .int x2)] dX7_laysWays_42 rfl (by rw [hn]; decide) rfl ?_
      refine OK.sub (lv' := [(0, .ref a0), (1, .int x1), (2, .int x2), (3, .int x1)]) [1, 2, 3, 0] rfl ?_
      exact oX7_laysWays_43 C T hn hR hin ih FU a0 x1 x2 x1 s0
set_option maxHeartbeats 4000000 in
theorem oX7_laysWays_31 {Γ : CX} (C : OKC Γ cX7_laysWays RX7 none) (T : ∀ z ∈ (cx_c Γ).exceptionTable.toList, False) (hn : cx_nL Γ = 6) (hR : cx_fr Γ = 3 ∧ cx_lo Γ = 101) (hin : (cx_meth Γ).name = yX7_laysWays.name) : ∀ (a0 : Nat) (x1 : Int32) (s0 : AS), OK Γ 31 [(0, .ref a0), (1, .int x1)] [] (fX7_laysWays_31  a0 x1 s0) s0 := by
  intro a0 x1 s0
  unfold fX7_laysWays_31
  refine ok_iconst C (v := 0) dX7_laysWays_31 (by decide) ?_
  refine ok_istore_n C (i := 2) [(2, .int 0), (0, .ref a0), (1, .int x1)] dX7_laysWays_32 rfl (by rw [hn]; decide) rfl ?_
  refine OK.sub (lv' := [(0, .ref a0), (1, .int x1), (2, .int 0)]) [1, 2, 0] rfl ?_
  exact oX7_laysWays_33 C T hn hR hin FU a0 x1 0 s0
set_option maxHeartbeats 4000000 in
theorem oX7_laysWays_21 {Γ : CX} (C : OKC Γ cX7_laysWays RX7 none) (T : ∀ z ∈ (cx_c Γ).exceptionTable.toList, False) (hn : cx_nL Γ = 6) (hR : cx_fr Γ = 3 ∧ cx_lo Γ = 101) (hin : (cx_meth Γ).name = yX7_laysWays.name) {r2 : Nat → Int32 → Int32 → AS → Option AR} (h2 : ∀ (a0 : Nat) (x1 : Int32) (x2 : Int32) (s0 : AS), OK Γ 2 [(0, .ref a0), (1, .int x1), (2, .int x2)] [] (r2 a0 x1 x2 s0) s0) : ∀ (a0 : Nat) (x1 : Int32) (x2 : Int32) (t0 : Nat) (t1 : Int32) (t2 : Int32) (s0 : AS), OK Γ 21 [(0, .ref a0), (1, .int x1), (2, .int x2)] [.int t2, .int t1, .ref t0] (fX7_laysWays_21 r2 a0 x1 x2 t0 t1 t2 s0) s0 := by
  intro a0 x1 x2 t0 t1 t2 s0
  unfold fX7_laysWays_21
  refine ok_callS C T [.int t2] (F := fX7_flag t2) (ctX7_flag (C.2.2.2.2.2.2.2.2.1) t2) vlX7_250 kw_882 rfl (by rw [hR.1, hR.2]; decide) (Nat.le_of_ble_eq_true rfl) dX7_laysWays_21 (ok_qI fun v1 s2 => ?_)
  refine ok_iast C dX7_laysWays_24 (fun s3 _ => ?_)
  refine ok_iincL C 2 (c := 1) (fun v4 => [(2, .int v4), (0, .ref a0), (1, .int x1)]) dX7_laysWays_25 rfl rfl (by rw [hn]; decide) (fun _ => rfl) (fun v4 => ?_)
  refine ok_goto C 2 dX7_laysWays_28 (by decide) ?_
  refine OK.sub (lv' := [(0, .ref a0), (1, .int x1), (2, .int v4)]) [1, 2, 0] rfl ?_
  exact h2 a0 x1 v4 s3
set_option maxHeartbeats 4000000 in
theorem oX7_laysWays_2 {Γ : CX} (C : OKC Γ cX7_laysWays RX7 none) (T : ∀ z ∈ (cx_c Γ).exceptionTable.toList, False) (hn : cx_nL Γ = 6) (hR : cx_fr Γ = 3 ∧ cx_lo Γ = 101) (hin : (cx_meth Γ).name = yX7_laysWays.name) : ∀ (n : Nat) (a0 : Nat) (x1 : Int32) (x2 : Int32) (s0 : AS), OK Γ 2 [(0, .ref a0), (1, .int x1), (2, .int x2)] [] (fX7_laysWays_2 n a0 x1 x2 s0) s0 := by
  intro n
  induction n with
  | zero => intro _ _ _ s0; exact OK.none
  | succ n ih =>
    intro a0 x1 x2 s0
    rw [fX7_laysWays_2]
    refine ok_iload_n C 2 dX7_laysWays_2 rfl ?_
    refine ok_iload_n C 1 dX7_laysWays_3 rfl ?_
    refine ok_icmp_gt C 31 dX7_laysWays_4 (by decide) ?_ ?_
    · refine OK.sub (lv' := [(0, .ref a0), (1, .int x1)]) [0, 1] rfl ?_
      exact oX7_laysWays_31 C T hn hR hin a0 x1 s0
    · refine ok_aload_n C 0 dX7_laysWays_7 rfl ?_
      refine ok_getR C frX7_61_11 dX7_laysWays_8 (fun q1 => ?_)
      refine ok_iload_n C 2 dX7_laysWays_11 rfl ?_
      refine ok_iload_n C 2 dX7_laysWays_12 rfl ?_
      refine ok_if_ne C 20 dX7_laysWays_13 (by decide) ?_ ?_
      · refine ok_iconst C (v := 0) dX7_laysWays_20 (by decide) ?_
        exact oX7_laysWays_21 C T hn hR hin ih a0 x1 x2 q1 x2 0 s0
      · refine ok_iconst C (v := 1) dX7_laysWays_16 (by decide) ?_
        refine ok_goto C 21 dX7_laysWays_17 (by decide) ?_
        exact oX7_laysWays_21 C T hn hR hin ih a0 x1 x2 q1 x2 1 s0
set_option maxHeartbeats 4000000 in
theorem oX7_laysWays {Γ : CX} (C : OKC Γ cX7_laysWays RX7 none) (T : ∀ z ∈ (cx_c Γ).exceptionTable.toList, False) (hn : cx_nL Γ = 6) (hR : cx_fr Γ = 3 ∧ cx_lo Γ = 101) (hin : (cx_meth Γ).name = yX7_laysWays.name) : ∀ (a0 : Nat) (x1 : Int32) (s0 : AS), OK Γ 0 [(0, .ref a0), (1, .int x1)] [] (fX7_laysWays a0 x1 s0) s0 := by
  intro a0 x1 s0
  unfold fX7_laysWays
  refine ok_iconst C (v := 0) dX7_laysWays_0 (by decide) ?_
  refine ok_istore_n C (i := 2) [(2, .int 0), (0, .ref a0), (1, .int x1)] dX7_laysWays_1 rfl (by rw [hn]; decide) rfl ?_
  refine OK.sub (lv' := [(0, .ref a0), (1, .int x1), (2, .int 0)]) [1, 2, 0] rfl ?_
  exact oX7_laysWays_2 C T hn hR hin FU a0 x1 0 s0
theorem ctX7_laysWays {l : Launch} (hl : l.stackTraces = false) {D : va_G} {dA : Nat → ClassId} {B0 : Nat} (a0 : Nat) (x1 : Int32) : Ct l D dA B0 yX7_laysWays (.code yX7_laysWays cX7_laysWays 6 (none) :: ax_ALL) 3 101 [.ref a0, .int x1] (fX7_laysWays a0 x1) :=
  Ct.of hl (by decide +kernel) (Nat.le_of_ble_eq_true rfl) fun Γ C _ _ _ _ e5 e6 e7 T hin => oX7_laysWays C T e5 ⟨e6, e7⟩ hin a0 x1 _
/-! ChaseLockerModel.locks(I)Z -/
def fX7_locks_110  (a0 : Nat) (x1 : Int32) (s0 : AS) : Option AR :=
  cV s0 a0 11 (fX7_puts a0 x1 4 0 s0) (qV (fun s1 =>
  rZ 1 s1))
def fX7_locks_104 (r62 : Nat → Int32 → Int32 → AS → Option AR) (a0 : Nat) (x1 : Int32) (x2 : Int32) (s0 : AS) : Option AR :=
  lt (x2 + 1) (fun v1 =>
  r62 a0 x1 v1 s0)
def fX7_locks_72 (r62 : Nat → Int32 → Int32 → AS → Option AR) : Nat → Nat → Int32 → Int32 → Int32 → AS → Option AR
  | 0, _, _, _, _, _ => none
  | n + 1, a0, x1, x2, x3, s0 =>
    gR s0 a0 11 35 (fun q1 =>
    gR s0 a0 11 33 (fun q2 =>
    aI s0 q2 100 x2 (fun v3 =>
    aI s0 q1 100 v3 (fun v4 =>
    if v4 ≤ x3 then (
      fX7_locks_104 r62 a0 x1 x2 s0)
    else (
      gR s0 a0 11 33 (fun q5 =>
      aI s0 q5 100 x2 (fun v6 =>
      cV s0 a0 11 (fX7_putsPiece a0 x1 v6 s0) (qV (fun s7 =>
      lt (x3 + 1) (fun v8 =>
      fX7_locks_72 r62 n a0 x1 x2 v8 s7))))))))))
def fX7_locks_62  : Nat → Nat → Int32 → Int32 → AS → Option AR
  | 0, _, _, _, _ => none
  | n + 1, a0, x1, x2, s0 =>
    gI s0 a0 11 9 (fun v1 =>
    if v1 ≤ x2 then (
      fX7_locks_110 a0 x1 s0)
    else (
      fX7_locks_72 (fX7_locks_62 n) FU a0 x1 x2 0 s0))
def fX7_locks_60  (a0 : Nat) (x1 : Int32) (s0 : AS) : Option AR :=
  fX7_locks_62 FU a0 x1 0 s0
def fX7_locks_38  (a0 : Nat) (x1 : Int32) (t0 : Nat) (t1 : Int32) (t2 : Int32) (t3 : Int32) (s0 : AS) : Option AR :=
  cS s0 (fX7_flag t3 s0) (qI (fun v1 s2 =>
  uI s2 t0 t1 (t2 - v1) (fun s3 =>
  gI s3 a0 11 36 (fun v4 =>
  cV s3 a0 11 (fX7_puts a0 x1 2 v4 s3) (qV (fun s5 =>
  cV s5 a0 11 (fX7_puts a0 x1 3 0 s5) (qV (fun s6 =>
  fX7_locks_60 a0 x1 s6))))))))
def fX7_locks (a0 : Nat) (x1 : Int32) (s0 : AS) : Option AR :=
  cV s0 a0 11 (fX7_chooses a0 x1 s0) (qI (fun v1 s2 =>
  if v1 = 0 then (
    rZ 0 s2)
  else (
    gI s2 a0 11 36 (fun v3 =>
    if v3 = (-1 : Int32) then (
      fX7_locks_60 a0 x1 s2)
    else (
      gR s2 a0 11 12 (fun q4 =>
      aI s2 q4 100 0 (fun v5 =>
      cV s2 a0 11 (fX7_hasQuoin a0 x1 s2) (qI (fun v6 s7 =>
      if v6 = 0 then (
        fX7_locks_38 a0 x1 q4 0 v5 1 s7)
      else (
        fX7_locks_38 a0 x1 q4 0 v5 0 s7))))))))))
set_option maxHeartbeats 4000000 in
theorem oX7_locks_110 {Γ : CX} (C : OKC Γ cX7_locks RX7 (some (.boolean))) (T : ∀ z ∈ (cx_c Γ).exceptionTable.toList, False) (hn : cx_nL Γ = 4) (hR : cx_fr Γ = 9 ∧ cx_lo Γ = 238) (hin : (cx_meth Γ).name = yX7_locks.name) : ∀ (a0 : Nat) (x1 : Int32) (s0 : AS), OK Γ 110 [(0, .ref a0), (1, .int x1)] [] (fX7_locks_110  a0 x1 s0) s0 := by
  intro a0 x1 s0
  unfold fX7_locks_110
  refine ok_aload_n C 0 dX7_locks_110 rfl ?_
  refine ok_iload_n C 1 dX7_locks_111 rfl ?_
  refine ok_iconst C (v := 4) dX7_locks_112 (by decide) ?_
  refine ok_iconst C (v := 0) dX7_locks_113 (by decide) ?_
  refine ok_callV C T [.int x1, .int 4, .int 0] (F := fX7_puts a0 x1 4 0) (ctX7_puts (C.2.2.2.2.2.2.2.2.1) a0 x1 4 0) vlX7_178 viX7_puts rfl rfl (by decide) rfl (by rw [hR.1, hR.2]; decide) (Nat.le_of_ble_eq_true rfl) dX7_locks_114 (ok_qV fun s1 => ?_)
  refine ok_iconst C (v := 1) dX7_locks_117 (by decide) ?_
  exact ok_zreturn C dX7_locks_118
set_option maxHeartbeats 4000000 in
theorem oX7_locks_104 {Γ : CX} (C : OKC Γ cX7_locks RX7 (some (.boolean))) (T : ∀ z ∈ (cx_c Γ).exceptionTable.toList, False) (hn : cx_nL Γ = 4) (hR : cx_fr Γ = 9 ∧ cx_lo Γ = 238) (hin : (cx_meth Γ).name = yX7_locks.name) {r62 : Nat → Int32 → Int32 → AS → Option AR} (h62 : ∀ (a0 : Nat) (x1 : Int32) (x2 : Int32) (s0 : AS), OK Γ 62 [(0, .ref a0), (1, .int x1), (2, .int x2)] [] (r62 a0 x1 x2 s0) s0) : ∀ (a0 : Nat) (x1 : Int32) (x2 : Int32) (s0 : AS), OK Γ 104 [(0, .ref a0), (1, .int x1), (2, .int x2)] [] (fX7_locks_104 r62 a0 x1 x2 s0) s0 := by
  intro a0 x1 x2 s0
  unfold fX7_locks_104
  refine ok_iincL C 2 (c := 1) (fun v1 => [(2, .int v1), (0, .ref a0), (1, .int x1)]) dX7_locks_104 rfl rfl (by rw [hn]; decide) (fun _ => rfl) (fun v1 => ?_)
  refine ok_goto C 62 dX7_locks_107 (by decide) ?_
  refine OK.sub (lv' := [(0, .ref a0), (1, .int x1), (2, .int v1)]) [1, 2, 0] rfl ?_
  exact h62 a0 x1 v1 s0
set_option maxHeartbeats 4000000 in
theorem oX7_locks_72 {Γ : CX} (C : OKC Γ cX7_locks RX7 (some (.boolean))) (T : ∀ z ∈ (cx_c Γ).exceptionTable.toList, False) (hn : cx_nL Γ = 4) (hR : cx_fr Γ = 9 ∧ cx_lo Γ = 238) (hin : (cx_meth Γ).name = yX7_locks.name) {r62 : Nat → Int32 → Int32 → AS → Option AR} (h62 : ∀ (a0 : Nat) (x1 : Int32) (x2 : Int32) (s0 : AS), OK Γ 62 [(0, .ref a0), (1, .int x1), (2, .int x2)] [] (r62 a0 x1 x2 s0) s0) : ∀ (n : Nat) (a0 : Nat) (x1 : Int32) (x2 : Int32) (x3 : Int32) (s0 : AS), OK Γ 72 [(0, .ref a0), (1, .int x1), (2, .int x2), (3, .int x3)] [] (fX7_locks_72 r62 n a0 x1 x2 x3 s0) s0 := by
  intro n
  induction n with
  | zero => intro _ _ _ _ s0; exact OK.none
  | succ n ih =>
    intro a0 x1 x2 x3 s0
    rw [fX7_locks_72]
    refine ok_iload_n C 3 dX7_locks_72 rfl ?_
    refine ok_aload_n C 0 dX7_locks_73 rfl ?_
    refine ok_getR C frX7_55_11 dX7_locks_74 (fun q1 => ?_)
    refine ok_aload_n C 0 dX7_locks_77 rfl ?_
    refine ok_getR C frX7_49_11 dX7_locks_78 (fun q2 => ?_)
    refine ok_iload_n C 2 dX7_locks_81 rfl ?_
    refine ok_iald C dX7_locks_82 (fun v3 => ?_)
    refine ok_iald C dX7_locks_83 (fun v4 => ?_)
    refine ok_icmp_ge C 104 dX7_locks_84 (by decide) ?_ ?_
    · refine OK.sub (lv' := [(0, .ref a0), (1, .int x1), (2, .int x2)]) [0, 1, 2] rfl ?_
      exact oX7_locks_104 C T hn hR hin h62 a0 x1 x2 s0
    · refine ok_aload_n C 0 dX7_locks_87 rfl ?_
      refine ok_iload_n C 1 dX7_locks_88 rfl ?_
      refine ok_aload_n C 0 dX7_locks_89 rfl ?_
      refine ok_getR C frX7_49_11 dX7_locks_90 (fun q5 => ?_)
      refine ok_iload_n C 2 dX7_locks_93 rfl ?_
      refine ok_iald C dX7_locks_94 (fun v6 => ?_)
      refine ok_callV C T [.int x1, .int v6] (F := fX7_putsPiece a0 x1 v6) (ctX7_putsPiece (C.2.2.2.2.2.2.2.2.1) a0 x1 v6) vlX7_314 viX7_putsPiece rfl rfl (by decide) rfl (by rw [hR.1, hR.2]; decide) (Nat.le_of_ble_eq_true rfl) dX7_locks_95 (ok_qV fun s7 => ?_)
      refine ok_iincL C 3 (c := 1) (fun v8 => [(3, .int v8), (0, .ref a0), (1, .int x1), (2, .int x2)]) dX7_locks_98 rfl rfl (by rw [hn]; decide) (fun _ => rfl) (fun v8 => ?_)
      refine ok_goto C 72 dX7_locks_101 (by decide) ?_
      refine OK.sub (lv' := [(0, .ref a0), (1, .int x1), (2, .int x2), (3, .int v8)]) [1, 2, 3, 0] rfl ?_
      exact ih a0 x1 x2 v8 s7
set_option maxHeartbeats 4000000 in
theorem oX7_locks_62 {Γ : CX} (C : OKC Γ cX7_locks RX7 (some (.boolean))) (T : ∀ z ∈ (cx_c Γ).exceptionTable.toList, False) (hn : cx_nL Γ = 4) (hR : cx_fr Γ = 9 ∧ cx_lo Γ = 238) (hin : (cx_meth Γ).name = yX7_locks.name) : ∀ (n : Nat) (a0 : Nat) (x1 : Int32) (x2 : Int32) (s0 : AS), OK Γ 62 [(0, .ref a0), (1, .int x1), (2, .int x2)] [] (fX7_locks_62 n a0 x1 x2 s0) s0 := by
  intro n
  induction n with
  | zero => intro _ _ _ s0; exact OK.none
  | succ n ih =>
    intro a0 x1 x2 s0
    rw [fX7_locks_62]
    refine ok_iload_n C 2 dX7_locks_62 rfl ?_
    refine ok_aload_n C 0 dX7_locks_63 rfl ?_
    refine ok_getI C frX7_172_11 dX7_locks_64 (fun v1 => ?_)
    refine ok_icmp_ge C 110 dX7_locks_67 (by decide) ?_ ?_
    · refine OK.sub (lv' := [(0, .ref a0), (1, .int x1)]) [0, 1] rfl ?_
      exact oX7_locks_110 C T hn hR hin a0 x1 s0
    · refine ok_iconst C (v := 0) dX7_locks_70 (by decide) ?_
      refine ok_istore_n C (i := 3) [(3, .int 0), (0, .ref a0), (1, .int x1), (2, .int x2)] dX7_locks_71 rfl (by rw [hn]; decide) rfl ?_
      refine OK.sub (lv' := [(0, .ref a0), (1, .int x1), (2, .int x2), (3, .int 0)]) [1, 2, 3, 0] rfl ?_
      exact oX7_locks_72 C T hn hR hin ih FU a0 x1 x2 0 s0
set_option maxHeartbeats 4000000 in
theorem oX7_locks_60 {Γ : CX} (C : OKC Γ cX7_locks RX7 (some (.boolean))) (T : ∀ z ∈ (cx_c Γ).exceptionTable.toList, False) (hn : cx_nL Γ = 4) (hR : cx_fr Γ = 9 ∧ cx_lo Γ = 238) (hin : (cx_meth Γ).name = yX7_locks.name) : ∀ (a0 : Nat) (x1 : Int32) (s0 : AS), OK Γ 60 [(0, .ref a0), (1, .int x1)] [] (fX7_locks_60  a0 x1 s0) s0 := by
  intro a0 x1 s0
  unfold fX7_locks_60
  refine ok_iconst C (v := 0) dX7_locks_60 (by decide) ?_
  refine ok_istore_n C (i := 2) [(2, .int 0), (0, .ref a0), (1, .int x1)] dX7_locks_61 rfl (by rw [hn]; decide) rfl ?_
  refine OK.sub (lv' := [(0, .ref a0), (1, .int x1), (2, .int 0)]) [1, 2, 0] rfl ?_
  exact oX7_locks_62 C T hn hR hin FU a0 x1 0 s0
set_option maxHeartbeats 4000000 in
theorem oX7_locks_38 {Γ : CX} (C : OKC Γ cX7_locks RX7 (some (.boolean))) (T : ∀ z ∈ (cx_c Γ).exceptionTable.toList, False) (hn : cx_nL Γ = 4) (hR : cx_fr Γ = 9 ∧ cx_lo Γ = 238) (hin : (cx_meth Γ).name = yX7_locks.name) : ∀ (a0 : Nat) (x1 : Int32) (t0 : Nat) (t1 : Int32) (t2 : Int32) (t3 : Int32) (s0 : AS), OK Γ 38 [(0, .ref a0), (1, .int x1)] [.int t3, .int t2, .int t1, .ref t0] (fX7_locks_38  a0 x1 t0 t1 t2 t3 s0) s0 := by
  intro a0 x1 t0 t1 t2 t3 s0
  unfold fX7_locks_38
  refine ok_callS C T [.int t3] (F := fX7_flag t3) (ctX7_flag (C.2.2.2.2.2.2.2.2.1) t3) vlX7_250 kw_882 rfl (by rw [hR.1, hR.2]; decide) (Nat.le_of_ble_eq_true rfl) dX7_locks_38 (ok_qI fun v1 s2 => ?_)
  refine ok_isub C dX7_locks_41 ?_
  refine ok_iast C dX7_locks_42 (fun s3 _ => ?_)
  refine ok_aload_n C 0 dX7_locks_43 rfl ?_
  refine ok_iload_n C 1 dX7_locks_44 rfl ?_
  refine ok_iconst C (v := 2) dX7_locks_45 (by decide) ?_
  refine ok_aload_n C 0 dX7_locks_46 rfl ?_
  refine ok_getI C frX7_298_11 dX7_locks_47 (fun v4 => ?_)
  refine ok_callV C T [.int x1, .int 2, .int v4] (F := fX7_puts a0 x1 2 v4) (ctX7_puts (C.2.2.2.2.2.2.2.2.1) a0 x1 2 v4) vlX7_178 viX7_puts rfl rfl (by decide) rfl (by rw [hR.1, hR.2]; decide) (Nat.le_of_ble_eq_true rfl) dX7_locks_50 (ok_qV fun s5 => ?_)
  refine ok_aload_n C 0 dX7_locks_53 rfl ?_
  refine ok_iload_n C 1 dX7_locks_54 rfl ?_
  refine ok_iconst C (v := 3) dX7_locks_55 (by decide) ?_
  refine ok_iconst C (v := 0) dX7_locks_56 (by decide) ?_
  refine ok_callV C T [.int x1, .int 3, .int 0] (F := fX7_puts a0 x1 3 0) (ctX7_puts (C.2.2.2.2.2.2.2.2.1) a0 x1 3 0) vlX7_178 viX7_puts rfl rfl (by decide) rfl (by rw [hR.1, hR.2]; decide) (Nat.le_of_ble_eq_true rfl) dX7_locks_57 (ok_qV fun s6 => ?_)
  exact oX7_locks_60 C T hn hR hin a0 x1 s6
set_option maxHeartbeats 4000000 in
theorem oX7_locks {Γ : CX} (C : OKC Γ cX7_locks RX7 (some (.boolean))) (T : ∀ z ∈ (cx_c Γ).exceptionTable.toList, False) (hn : cx_nL Γ = 4) (hR : cx_fr Γ = 9 ∧ cx_lo Γ = 238) (hin : (cx_meth Γ).name = yX7_locks.name) : ∀ (a0 : Nat) (x1 : Int32) (s0 : AS), OK Γ 0 [(0, .ref a0), (1, .int x1)] [] (fX7_locks a0 x1 s0) s0 := by
  intro a0 x1 s0
  unfold fX7_locks
  refine ok_aload_n C 0 dX7_locks_0 rfl ?_
  refine ok_iload_n C 1 dX7_locks_1 rfl ?_
  refine ok_callV C T [.int x1] (F := fX7_chooses a0 x1) (ctX7_chooses (C.2.2.2.2.2.2.2.2.1) a0 x1) vlX7_311 viX7_chooses rfl rfl (by decide) rfl (by rw [hR.1, hR.2]; decide) (Nat.le_of_ble_eq_true rfl) dX7_locks_2 (ok_qI fun v1 s2 => ?_)
  refine ok_if_ne C 10 dX7_locks_5 (by decide) ?_ ?_
  · refine ok_aload_n C 0 dX7_locks_10 rfl ?_
    refine ok_getI C frX7_298_11 dX7_locks_11 (fun v3 => ?_)
    refine ok_iconst C (v := (-1)) dX7_locks_14 (by decide) ?_
    refine ok_icmp_eq C 60 dX7_locks_15 (by decide) ?_ ?_
    · exact oX7_locks_60 C T hn hR hin a0 x1 s2
    · refine ok_aload_n C 0 dX7_locks_18 rfl ?_
      refine ok_getR C frX7_17_11 dX7_locks_19 (fun q4 => ?_)
      refine ok_iconst C (v := 0) dX7_locks_22 (by decide) ?_
      refine ok_dup2 C dX7_locks_23 rfl rfl ?_
      refine ok_iald C dX7_locks_24 (fun v5 => ?_)
      refine ok_aload_n C 0 dX7_locks_25 rfl ?_
      refine ok_iload_n C 1 dX7_locks_26 rfl ?_
      refine ok_callV C T [.int x1] (F := fX7_hasQuoin a0 x1) (ctX7_hasQuoin (C.2.2.2.2.2.2.2.2.1) a0 x1) vlX7_238 viX7_hasQuoin rfl rfl (by decide) rfl (by rw [hR.1, hR.2]; decide) (Nat.le_of_ble_eq_true rfl) dX7_locks_27 (ok_qI fun v6 s7 => ?_)
      refine ok_if_ne C 37 dX7_locks_30 (by decide) ?_ ?_
      · refine ok_iconst C (v := 0) dX7_locks_37 (by decide) ?_
        exact oX7_locks_38 C T hn hR hin a0 x1 q4 0 v5 0 s7
      · refine ok_iconst C (v := 1) dX7_locks_33 (by decide) ?_
        refine ok_goto C 38 dX7_locks_34 (by decide) ?_
        exact oX7_locks_38 C T hn hR hin a0 x1 q4 0 v5 1 s7
  · refine ok_iconst C (v := 0) dX7_locks_8 (by decide) ?_
    exact ok_zreturn C dX7_locks_9
theorem ctX7_locks {l : Launch} (hl : l.stackTraces = false) {D : va_G} {dA : Nat → ClassId} {B0 : Nat} (a0 : Nat) (x1 : Int32) : Ct l D dA B0 yX7_locks (.code yX7_locks cX7_locks 4 (some (.boolean)) :: ax_ALL) 9 238 [.ref a0, .int x1] (fX7_locks a0 x1) :=
  Ct.of hl (by decide +kernel) (Nat.le_of_ble_eq_true rfl) fun Γ C _ _ _ _ e5 e6 e7 T hin => oX7_locks C T e5 ⟨e6, e7⟩ hin a0 x1 _
/-! ChaseLockerModel.sumOver(I)I -/
def fX7_sumOver_4  : Nat → Nat → Int32 → Int32 → Int32 → AS → Option AR
  | 0, _, _, _, _, _ => none
  | n + 1, a0, x1, x2, x3, s0 =>
    gI s0 a0 11 3 (fun v1 =>
    if v1 ≤ x3 then (
      some (.inl (some (.int x2)), s0))
    else (
      cV s0 a0 11 (fX7_of a0 x3 x1 s0) (qI (fun v2 s3 =>
      lt (x2 + v2) (fun v4 =>
      lt (x3 + 1) (fun v5 =>
      fX7_sumOver_4 n a0 x1 v4 v5 s3))))))
def fX7_sumOver (a0 : Nat) (x1 : Int32) (s0 : AS) : Option AR :=
  fX7_sumOver_4 FU a0 x1 0 0 s0
set_option maxHeartbeats 4000000 in
theorem oX7_sumOver_4 {Γ : CX} (C : OKC Γ cX7_sumOver RX7 (some (.int))) (T : ∀ z ∈ (cx_c Γ).exceptionTable.toList, False) (hn : cx_nL Γ = 4) (hR : cx_fr Γ = 2 ∧ cx_lo Γ = 82) (hin : (cx_meth Γ).name = yX7_sumOver.name) : ∀ (n : Nat) (a0 : Nat) (x1 : Int32) (x2 : Int32) (x3 : Int32) (s0 : AS), OK Γ 4 [(0, .ref a0), (1, .int x1), (2, .int x2), (3, .int x3)] [] (fX7_sumOver_4 n a0 x1 x2 x3 s0) s0 := by
  intro n
  induction n with
  | zero => intro _ _ _ _ s0; exact OK.none
  | succ n ih =>
    intro a0 x1 x2 x3 s0
    rw [fX7_sumOver_4]
    refine ok_iload_n C 3 dX7_sumOver_4 rfl ?_
    refine ok_aload_n C 0 dX7_sumOver_5 rfl ?_
    refine ok_getI C frX7_154_11 dX7_sumOver_6 (fun v1 => ?_)
    refine ok_icmp_ge C 27 dX7_sumOver_9 (by decide) ?_ ?_
    · refine ok_iload_n C 2 dX7_sumOver_27 rfl ?_
      exact ok_ireturn C dX7_sumOver_28
    · refine ok_iload_n C 2 dX7_sumOver_12 rfl ?_
      refine ok_aload_n C 0 dX7_sumOver_13 rfl ?_
      refine ok_iload_n C 3 dX7_sumOver_14 rfl ?_
      refine ok_iload_n C 1 dX7_sumOver_15 rfl ?_
      refine ok_callV C T [.int x3, .int x1] (F := fX7_of a0 x3 x1) (ctX7_of (C.2.2.2.2.2.2.2.2.1) a0 x3 x1) vlX7_189 viX7_of rfl rfl (by decide) rfl (by rw [hR.1, hR.2]; decide) (Nat.le_of_ble_eq_true rfl) dX7_sumOver_16 (ok_qI fun v2 s3 => ?_)
      refine ok_iadd C dX7_sumOver_19 ?_
      refine ok_lt (fun v4 => ?_)
      refine ok_istore_n C (i := 2) [(2, .int v4), (0, .ref a0), (1, .int x1), (3, .int x3)] dX7_sumOver_20 rfl (by rw [hn]; decide) rfl ?_
      refine ok_iincL C 3 (c := 1) (fun v5 => [(3, .int v5), (2, .int v4), (0, .ref a0), (1, .int x1)]) dX7_sumOver_21 rfl rfl (by rw [hn]; decide) (fun _ => rfl) (fun v5 => ?_)
      refine ok_goto C 4 dX7_sumOver_24 (by decide) ?_
      refine OK.sub (lv' := [(0, .ref a0), (1, .int x1), (2, .int v4), (3, .int v5)]) [2, 3, 1, 0] rfl ?_
      exact ih a0 x1 v4 v5 s3
set_option maxHeartbeats 4000000 in
theorem oX7_sumOver {Γ : CX} (C : OKC Γ cX7_sumOver RX7 (some (.int))) (T : ∀ z ∈ (cx_c Γ).exceptionTable.toList, False) (hn : cx_nL Γ = 4) (hR : cx_fr Γ = 2 ∧ cx_lo Γ = 82) (hin : (cx_meth Γ).name = yX7_sumOver.name) : ∀ (a0 : Nat) (x1 : Int32) (s0 : AS), OK Γ 0 [(0, .ref a0), (1, .int x1)] [] (fX7_sumOver a0 x1 s0) s0 := by
  intro a0 x1 s0
  unfold fX7_sumOver
  refine ok_iconst C (v := 0) dX7_sumOver_0 (by decide) ?_
  refine ok_istore_n C (i := 2) [(2, .int 0), (0, .ref a0), (1, .int x1)] dX7_sumOver_1 rfl (by rw [hn]; decide) rfl ?_
  refine ok_iconst C (v := 0) dX7_sumOver_2 (by decide) ?_
  refine ok_istore_n C (i := 3) [(3, .int 0), (2, .int 0), (0, .ref a0), (1, .int x1)] dX7_sumOver_3 rfl (by rw [hn]; decide) rfl ?_
  refine OK.sub (lv' := [(0, .ref a0), (1, .int x1), (2, .int 0), (3, .int 0)]) [2, 3, 1, 0] rfl ?_
  exact oX7_sumOver_4 C T hn hR hin FU a0 x1 0 0 s0
theorem ctX7_sumOver {l : Launch} (hl : l.stackTraces = false) {D : va_G} {dA : Nat → ClassId} {B0 : Nat} (a0 : Nat) (x1 : Int32) : Ct l D dA B0 yX7_sumOver (.code yX7_sumOver cX7_sumOver 4 (some (.int)) :: ax_ALL) 2 82 [.ref a0, .int x1] (fX7_sumOver a0 x1) :=
  Ct.of hl (by decide +kernel) (Nat.le_of_ble_eq_true rfl) fun Γ C _ _ _ _ e5 e6 e7 T hin => oX7_sumOver C T e5 ⟨e6, e7⟩ hin a0 x1 _
/-! ChaseLockerModel.tightRows()I -/
def fX7_tightRows_4  : Nat → Nat → Int32 → Int32 → AS → Option AR
  | 0, _, _, _, _ => none
  | n + 1, a0, x1, x2, s0 =>
    gI s0 a0 11 3 (fun v1 =>
    if v1 ≤ x2 then (
      some (.inl (some (.int x1)), s0))
    else (
      cV s0 a0 11 (fX7_isTightRow a0 x2 s0) (qI (fun v2 s3 =>
      cS s3 (fX7_flag v2 s3) (qI (fun v4 s5 =>
      lt (x1 + v4) (fun v6 =>
      lt (x2 + 1) (fun v7 =>
      fX7_tightRows_4 n a0 v6 v7 s5))))))))
def fX7_tightRows (a0 : Nat) (s0 : AS) : Option AR :=
  fX7_tightRows_4 FU a0 0 0 s0
set_option maxHeartbeats 4000000 in
theorem oX7_tightRows_4 {Γ : CX} (C : OKC Γ cX7_tightRows RX7 (some (.int))) (T : ∀ z ∈ (cx_c Γ).exceptionTable.toList, False) (hn : cx_nL Γ = 3) (hR : cx_fr Γ = 7 ∧ cx_lo Γ = 189) (hin : (cx_meth Γ).name = yX7_tightRows.name) : ∀ (n : Nat) (a0 : Nat) (x1 : Int32) (x2 : Int32) (s0 : AS), OK Γ 4 [(0, .ref a0), (1, .int x1), (2, .int x2)] [] (fX7_tightRows_4 n a0 x1 x2 s0) s0 := by
  intro n
  induction n with
  | zero => intro _ _ _ s0; exact OK.none
  | succ n ih =>
    intro a0 x1 x2 s0
    rw [fX7_tightRows_4]
    refine ok_iload_n C 2 dX7_tightRows_4 rfl ?_
    refine ok_aload_n C 0 dX7_tightRows_5 rfl ?_
    refine ok_getI C frX7_154_11 dX7_tightRows_6 (fun v1 => ?_)
    refine ok_icmp_ge C 29 dX7_tightRows_9 (by decide) ?_ ?_
    · refine ok_iload_n C 1 dX7_tightRows_29 rfl ?_
      exact ok_ireturn C dX7_tightRows_30
    · refine ok_iload_n C 1 dX7_tightRows_12 rfl ?_
      refine ok_aload_n C 0 dX7_tightRows_13 rfl ?_
      refine ok_iload_n C 2 dX7_tightRows_14 rfl ?_
      refine ok_callV C T [.int x2] (F := fX7_isTightRow a0 x2) (ctX7_isTightRow (C.2.2.2.2.2.2.2.2.1) a0 x2) vlX7_317 viX7_isTightRow rfl rfl (by decide) rfl (by rw [hR.1, hR.2]; decide) (Nat.le_of_ble_eq_true rfl) dX7_tightRows_15 (ok_qI fun v2 s3 => ?_)
      refine ok_callS C T [.int v2] (F := fX7_flag v2) (ctX7_flag (C.2.2.2.2.2.2.2.2.1) v2) vlX7_250 kw_882 rfl (by rw [hR.1, hR.2]; decide) (Nat.le_of_ble_eq_true rfl) dX7_tightRows_18 (ok_qI fun v4 s5 => ?_)
      refine ok_iadd C dX7_tightRows_21 ?_
      refine ok_lt (fun v6 => ?_)
      refine ok_istore_n C (i := 1) [(1, .int v6), (0, .ref a0), (2, .int x2)] dX7_tightRows_22 rfl (by rw [hn]; decide) rfl ?_
      refine ok_iincL C 2 (c := 1) (fun v7 => [(2, .int v7), (1, .int v6), (0, .ref a0)]) dX7_tightRows_23 rfl rfl (by rw [hn]; decide) (fun _ => rfl) (fun v7 => ?_)
      refine ok_goto C 4 dX7_tightRows_26 (by decide) ?_
      refine OK.sub (lv' := [(0, .ref a0), (1, .int v6), (2, .int v7)]) [2, 1, 0] rfl ?_
      exact ih a0 v6 v7 s5
set_option maxHeartbeats 4000000 in
theorem oX7_tightRows {Γ : CX} (C : OKC Γ cX7_tightRows RX7 (some (.int))) (T : ∀ z ∈ (cx_c Γ).exceptionTable.toList, False) (hn : cx_nL Γ = 3) (hR : cx_fr Γ = 7 ∧ cx_lo Γ = 189) (hin : (cx_meth Γ).name = yX7_tightRows.name) : ∀ (a0 : Nat) (s0 : AS), OK Γ 0 [(0, .ref a0)] [] (fX7_tightRows a0 s0) s0 := by
  intro a0 s0
  unfold fX7_tightRows
  refine ok_iconst C (v := 0) dX7_tightRows_0 (by decide) ?_
  refine ok_istore_n C (i := 1) [(1, .int 0), (0, .ref a0)] dX7_tightRows_1 rfl (by rw [hn]; decide) rfl ?_
  refine ok_iconst C (v := 0) dX7_tightRows_2 (by decide) ?_
  refine ok_istore_n C (i := 2) [(2, .int 0), (1, .int 0), (0, .ref a0)] dX7_tightRows_3 rfl (by rw [hn]; decide) rfl ?_
  refine OK.sub (lv' := [(0, .ref a0), (1, .int 0), (2, .int 0)]) [2, 1, 0] rfl ?_
  exact oX7_tightRows_4 C T hn hR hin FU a0 0 0 s0
theorem ctX7_tightRows {l : Launch} (hl : l.stackTraces = false) {D : va_G} {dA : Nat → ClassId} {B0 : Nat} (a0 : Nat) : Ct l D dA B0 yX7_tightRows (.code yX7_tightRows cX7_tightRows 3 (some (.int)) :: ax_ALL) 7 189 [.ref a0] (fX7_tightRows a0) :=
  Ct.of hl (by decide +kernel) (Nat.le_of_ble_eq_true rfl) fun Γ C _ _ _ _ e5 e6 e7 T hin => oX7_tightRows C T e5 ⟨e6, e7⟩ hin a0 _
/-! ChaseLockerModel.leftAll(Z)I -/
def fX7_leftAll_36 (r4 : Nat → Int32 → Int32 → Int32 → AS → Option AR) (a0 : Nat) (x1 : Int32) (x3 : Int32) (t0 : Int32) (t1 : Int32) (t2 : Int32) (s0 : AS) : Option AR :=
  lt (t0 + (t1 * t2)) (fun v1 =>
  lt (x3 + 1) (fun v2 =>
  r4 a0 x1 v1 v2 s0))
def fX7_leftAll_4  : Nat → Nat → Int32 → Int32 → Int32 → AS → Option AR
  | 0, _, _, _, _, _ => none
  | n + 1, a0, x1, x2, x3, s0 =>
    gI s0 a0 11 9 (fun v1 =>
    if v1 ≤ x3 then (
      some (.inl (some (.int x2)), s0))
    else (
      gR s0 a0 11 12 (fun q2 =>
      aI s0 q2 100 (6 + x3) (fun v3 =>
      if x1 = 0 then (
        fX7_leftAll_36 (fX7_leftAll_4 n) a0 x1 x3 x2 v3 1 s0)
      else (
        gR s0 a0 11 11 (fun q4 =>
        aI s0 q4 100 x3 (fun v5 =>
        fX7_leftAll_36 (fX7_leftAll_4 n) a0 x1 x3 x2 v3 v5 s0)))))))
def fX7_leftAll (a0 : Nat) (x1 : Int32) (s0 : AS) : Option AR :=
  fX7_leftAll_4 FU a0 x1 0 0 s0
set_option maxHeartbeats 4000000 in
theorem oX7_leftAll_36 {Γ : CX} (C : OKC Γ cX7_leftAll RX7 (some (.int))) (T : ∀ z ∈ (cx_c Γ).exceptionTable.toList, False) (hn : cx_nL Γ = 4) (hR : cx_fr Γ = 1 ∧ cx_lo Γ = 60) (hin : (cx_meth Γ).name = yX7_leftAll.name) {r4 : Nat → Int32 → Int32 → Int32 → AS → Option AR} (h4 : ∀ (a0 : Nat) (x1 : Int32) (x2 : Int32) (x3 : Int32) (s0 : AS), OK Γ 4 [(0, .ref a0), (1, .int x1), (2, .int x2), (3, .int x3)] [] (r4 a0 x1 x2 x3 s0) s0) : ∀ (a0 : Nat) (x1 : Int32) (x3 : Int32) (t0 : Int32) (t1 : Int32) (t2 : Int32) (s0 : AS), OK Γ 36 [(0, .ref a0), (1, .int x1), (3, .int x3)] [.int t2, .int t1, .int t0] (fX7_leftAll_36 r4 a0 x1 x3 t0 t1 t2 s0) s0 := by
  intro a0 x1 x3 t0 t1 t2 s0
  unfold fX7_leftAll_36
  refine ok_imul C dX7_leftAll_36 ?_
  refine ok_iadd C dX7_leftAll_37 ?_
  refine ok_lt (fun v1 => ?_)
  refine ok_istore_n C (i := 2) [(2, .int v1), (0, .ref a0), (1, .int x1), (3, .int x3)] dX7_leftAll_38 rfl (by rw [hn]; decide) rfl ?_
  refine ok_iincL C 3 (c := 1) (fun v2 => [(3, .int v2), (2, .int v1), (0, .ref a0), (1, .int x1)]) dX7_leftAll_39 rfl rfl (by rw [hn]; decide) (fun _ => rfl) (fun v2 => ?_)
  refine ok_goto C 4 dX7_leftAll_42 (by decide) ?_
  refine OK.sub (lv' := [(0, .ref a0), (1, .int x1), (2, .int v1), (3, .int v2)]) [2, 3, 1, 0] rfl ?_
  exact h4 a0 x1 v1 v2 s0
set_option maxHeartbeats 4000000 in
theorem oX7_leftAll_4 {Γ : CX} (C : OKC Γ cX7_leftAll RX7 (some (.int))) (T : ∀ z ∈ (cx_c Γ).exceptionTable.toList, False) (hn : cx_nL Γ = 4) (hR : cx_fr Γ = 1 ∧ cx_lo Γ = 60) (hin : (cx_meth Γ).name = yX7_leftAll.name) : ∀ (n : Nat) (a0 : Nat) (x1 : Int32) (x2 : Int32) (x3 : Int32) (s0 : AS), OK Γ 4 [(0, .ref a0), (1, .int x1), (2, .int x2), (3, .int x3)] [] (fX7_leftAll_4 n a0 x1 x2 x3 s0) s0 := by
  intro n
  induction n with
  | zero => intro _ _ _ _ s0; exact OK.none
  | succ n ih =>
    intro a0 x1 x2 x3 s0
    rw [fX7_leftAll_4]
    refine ok_iload_n C 3 dX7_leftAll_4 rfl ?_
    refine ok_aload_n C 0 dX7_leftAll_5 rfl ?_
    refine ok_getI C frX7_172_11 dX7_leftAll_6 (fun v1 => ?_)
    refine ok_icmp_ge C 45 dX7_leftAll_9 (by decide) ?_ ?_
    · refine ok_iload_n C 2 dX7_leftAll_45 rfl ?_
      exact ok_ireturn C dX7_leftAll_46
    · refine ok_iload_n C 2 dX7_leftAll_12 rfl ?_
      refine ok_aload_n C 0 dX7_leftAll_13 rfl ?_
      refine ok_getR C frX7_17_11 dX7_leftAll_14 (fun q2 => ?_)
      refine ok_bipush C (v := 6) dX7_leftAll_17 (by decide) ?_
      refine ok_iload_n C 3 dX7_leftAll_19 rfl ?_
      refine ok_iadd C dX7_leftAll_20 ?_
      refine ok_iald C dX7_leftAll_21 (fun v3 => ?_)
      refine ok_iload_n C 1 dX7_leftAll_22 rfl ?_
      refine ok_if_eq C 35 dX7_leftAll_23 (by decide) ?_ ?_
      · refine ok_iconst C (v := 1) dX7_leftAll_35 (by decide) ?_
        refine OK.sub (lv' := [(0, .ref a0), (1, .int x1), (3, .int x3)]) [0, 1, 3] rfl ?_
        exact oX7_leftAll_36 C T hn hR hin ih a0 x1 x3 x2 v3 1 s0
      · refine ok_aload_n C 0 dX7_leftAll_26 rfl ?_
        refine ok_getR C frX7_13_11 dX7_leftAll_27 (fun q4 => ?_)
        refine ok_iload_n C 3 dX7_leftAll_30 rfl ?_
        refine ok_iald C dX7_leftAll_31 (fun v5 => ?_)
        refine ok_goto C 36 dX7_leftAll_32 (by decide) ?_
        refine OK.sub (lv' := [(0, .ref a0), (1, .int x1), (3, .int x3)]) [0, 1, 3] rfl ?_
        exact oX7_leftAll_36 C T hn hR hin ih a0 x1 x3 x2 v3 v5 s0
set_option maxHeartbeats 4000000 in
theorem oX7_leftAll {Γ : CX} (C : OKC Γ cX7_leftAll RX7 (some (.int))) (T : ∀ z ∈ (cx_c Γ).exceptionTable.toList, False) (hn : cx_nL Γ = 4) (hR : cx_fr Γ = 1 ∧ cx_lo Γ = 60) (hin : (cx_meth Γ).name = yX7_leftAll.name) : ∀ (a0 : Nat) (x1 : Int32) (s0 : AS), OK Γ 0 [(0, .ref a0), (1, .int x1)] [] (fX7_leftAll a0 x1 s0) s0 := by
  intro a0 x1 s0
  unfold fX7_leftAll
  refine ok_iconst C (v := 0) dX7_leftAll_0 (by decide) ?_
  refine ok_istore_n C (i := 2) [(2, .int 0), (0, .ref a0), (1, .int x1)] dX7_leftAll_1 rfl (by rw [hn]; decide) rfl ?_
  refine ok_iconst C (v := 0) dX7_leftAll_2 (by decide) ?_
  refine ok_istore_n C (i := 3) [(3, .int 0), (2, .int 0), (0, .ref a0), (1, .int x1)] dX7_leftAll_3 rfl (by rw [hn]; decide) rfl ?_
  refine OK.sub (lv' := [(0, .ref a0), (1, .int x1), (2, .int 0), (3, .int 0)]) [2, 3, 1, 0] rfl ?_
  exact oX7_leftAll_4 C T hn hR hin FU a0 x1 0 0 s0
theorem ctX7_leftAll {l : Launch} (hl : l.stackTraces = false) {D : va_G} {dA : Nat → ClassId} {B0 : Nat} (a0 : Nat) (x1 : Int32) : Ct l D dA B0 yX7_leftAll (.code yX7_leftAll cX7_leftAll 4 (some (.int)) :: ax_ALL) 1 60 [.ref a0, .int x1] (fX7_leftAll a0 x1) :=
  Ct.of hl (by decide +kernel) (Nat.le_of_ble_eq_true rfl) fun Γ C _ _ _ _ e5 e6 e7 T hin => oX7_leftAll C T e5 ⟨e6, e7⟩ hin a0 x1 _
/-! ChaseLockerModel.count(I)I -/
def fX7_count_136  (a0 : Nat) (x1 : Int32) (s0 : AS) : Option AR :=
  gR s0 a0 11 12 (fun q1 =>
  aI s0 q1 100 ((1 + x1) - 6) (fun v2 =>
  some (.inl (some (.int v2)), s0)))
def fX7_count_23  (a0 : Nat) (x1 : Int32) (t0 : Nat) (t1 : Int32) (s0 : AS) : Option AR :=
  cV s0 t0 11 (fX7_refuse t0 t1 2 s0) (qI (fun v1 s2 =>
  if v1 = 0 then (
    if x1 = 0 then (
      gI s2 a0 11 3 (fun v3 =>
      some (.inl (some (.int v3)), s2)))
    else (
    if x1 = 1 then (
      gI s2 a0 11 9 (fun v4 =>
      some (.inl (some (.int v4)), s2)))
    else (
    if x1 = 2 then (
      gR s2 a0 11 12 (fun q5 =>
      aI s2 q5 100 0 (fun v6 =>
      some (.inl (some (.int v6)), s2))))
    else (
    if x1 = 3 then (
      cV s2 a0 11 (fX7_sumOver a0 0 s2) (qI (fun v7 s8 =>
      some (.inl (some (.int v7)), s8))))
    else (
    if x1 = 4 then (
      cV s2 a0 11 (fX7_sumOver a0 1 s2) (qI (fun v9 s10 =>
      some (.inl (some (.int v9)), s10))))
    else (
    if x1 = 5 then (
      cV s2 a0 11 (fX7_tightRows a0 s2) (qI (fun v11 s12 =>
      some (.inl (some (.int v11)), s12))))
    else (
    if x1 = 6 then (
      fX7_count_136 a0 x1 s2)
    else (
    if x1 = 7 then (
      fX7_count_136 a0 x1 s2)
    else (
    if x1 = 8 then (
      fX7_count_136 a0 x1 s2)
    else (
    if x1 = 9 then (
      fX7_count_136 a0 x1 s2)
    else (
    if x1 = 10 then (
      fX7_count_136 a0 x1 s2)
    else (
    if x1 = 11 then (
      cV s2 a0 11 (fX7_leftAll a0 0 s2) (qI (fun v13 s14 =>
      some (.inl (some (.int v13)), s14))))
    else (
    fX7_count_136 a0 x1 s2)))))))))))))
  else (
    some (.inl (some (.int 0)), s2))))
def fX7_count (a0 : Nat) (x1 : Int32) (s0 : AS) : Option AR :=
  cV s0 a0 11 (fX7_notLoaded a0 s0) (qI (fun v1 s2 =>
  if v1 = 0 then (
    cS s2 (fX7_in x1 0 11 s2) (qI (fun v3 s4 =>
    if v3 = 0 then (
      fX7_count_23 a0 x1 a0 1 s4)
    else (
      fX7_count_23 a0 x1 a0 0 s4))))
  else (
    some (.inl (some (.int 0)), s2))))
set_option maxHeartbeats 4000000 in
theorem oX7_count_136 {Γ : CX} (C : OKC Γ cX7_count RX7 (some (.int))) (T : ∀ z ∈ (cx_c Γ).exceptionTable.toList, False) (hn : cx_nL Γ = 2) (hR : cx_fr Γ = 8 ∧ cx_lo Γ = 211) (hin : (cx_meth Γ).name = yX7_count.name) : ∀ (a0 : Nat) (x1 : Int32) (s0 : AS), OK Γ 136 [(0, .ref a0), (1, .int x1)] [] (fX7_count_136  a0 x1 s0) s0 := by
  intro a0 x1 s0
  unfold fX7_count_136
  refine ok_aload_n C 0 dX7_count_136 rfl ?_
  refine ok_getR C frX7_17_11 dX7_count_137 (fun q1 => ?_)
  refine ok_iconst C (v := 1) dX7_count_140 (by decide) ?_
  refine ok_iload_n C 1 dX7_count_141 rfl ?_
  refine ok_iadd C dX7_count_142 ?_
  refine ok_bipush C (v := 6) dX7_count_143 (by decide) ?_
  refine ok_isub C dX7_count_145 ?_
  refine ok_iald C dX7_count_146 (fun v2 => ?_)
  exact ok_ireturn C dX7_count_147
set_option maxHeartbeats 4000000 in
theorem oX7_count_23 {Γ : CX} (C : OKC Γ cX7_count RX7 (some (.int))) (T : ∀ z ∈ (cx_c Γ).exceptionTable.toList, False) (hn : cx_nL Γ = 2) (hR : cx_fr Γ = 8 ∧ cx_lo Γ = 211) (hin : (cx_meth Γ).name = yX7_count.name) : ∀ (a0 : Nat) (x1 : Int32) (t0 : Nat) (t1 : Int32) (s0 : AS), OK Γ 23 [(0, .ref a0), (1, .int x1)] [.int t1, .ref t0] (fX7_count_23  a0 x1 t0 t1 s0) s0 := by
  intro a0 x1 t0 t1 s0
  unfold fX7_count_23
  refine ok_iconst C (v := 2) dX7_count_23 (by decide) ?_
  refine ok_callV C T [.int t1, .int 2] (F := fX7_refuse t0 t1 2) (ctX7_refuse (C.2.2.2.2.2.2.2.2.1) t0 t1 2) vlX7_74 viX7_refuse rfl rfl (by decide) rfl (by rw [hR.1, hR.2]; decide) (Nat.le_of_ble_eq_true rfl) dX7_count_24 (ok_qI fun v1 s2 => ?_)
  refine ok_if_eq C 32 dX7_count_27 (by decide) ?_ ?_
  · refine ok_iload_n C 1 dX7_count_32 rfl ?_
    refine ok_tsw C 0 96 dX7_count_33 ⟨by decide, by decide⟩ rfl (by decide) ?_ (fun hc0 => ?_)
    · refine ok_aload_n C 0 dX7_count_96 rfl ?_
      refine ok_getI C frX7_154_11 dX7_count_97 (fun v3 => ?_)
      exact ok_ireturn C dX7_count_100
    refine ok_tsw C 1 101 dX7_count_33 ⟨by decide, by decide⟩ rfl (by decide) ?_ (fun hc1 => ?_)
    · refine ok_aload_n C 0 dX7_count_101 rfl ?_
      refine ok_getI C frX7_172_11 dX7_count_102 (fun v4 => ?_)
      exact ok_ireturn C dX7_count_105
    refine ok_tsw C 2 106 dX7_count_33 ⟨by decide, by decide⟩ rfl (by decide) ?_ (fun hc2 => ?_)
    · refine ok_aload_n C 0 dX7_count_106 rfl ?_
      refine ok_getR C frX7_17_11 dX7_count_107 (fun q5 => ?_)
      refine ok_iconst C (v := 0) dX7_count_110 (by decide) ?_
      refine ok_iald C dX7_count_111 (fun v6 => ?_)
      exact ok_ireturn C dX7_count_112
    refine ok_tsw C 3 113 dX7_count_33 ⟨by decide, by decide⟩ rfl (by decide) ?_ (fun hc3 => ?_)
    · refine ok_aload_n C 0 dX7_count_113 rfl ?_
      refine ok_iconst C (v := 0) dX7_count_114 (by decide) ?_
      refine ok_callV C T [.int 0] (F := fX7_sumOver a0 0) (ctX7_sumOver (C.2.2.2.2.2.2.2.2.1) a0 0) vlX7_323 viX7_sumOver rfl rfl (by decide) rfl (by rw [hR.1, hR.2]; decide) (Nat.le_of_ble_eq_true rfl) dX7_count_115 (ok_qI fun v7 s8 => ?_)
      exact ok_ireturn C dX7_count_118
    refine ok_tsw C 4 119 dX7_count_33 ⟨by decide, by decide⟩ rfl (by decide) ?_ (fun hc4 => ?_)
    · refine ok_aload_n C 0 dX7_count_119 rfl ?_
      refine ok_iconst C (v := 1) dX7_count_120 (by decide) ?_
      refine ok_callV C T [.int 1] (F := fX7_sumOver a0 1) (ctX7_sumOver (C.2.2.2.2.2.2.2.2.1) a0 1) vlX7_323 viX7_sumOver rfl rfl (by decide) rfl (by rw [hR.1, hR.2]; decide) (Nat.le_of_ble_eq_true rfl) dX7_count_121 (ok_qI fun v9 s10 => ?_)
      exact ok_ireturn C dX7_count_124
    refine ok_tsw C 5 125 dX7_count_33 ⟨by decide, by decide⟩ rfl (by decide) ?_ (fun hc5 => ?_)
    · refine ok_aload_n C 0 dX7_count_125 rfl ?_
      refine ok_callV C T [] (F := fX7_tightRows a0) (ctX7_tightRows (C.2.2.2.2.2.2.2.2.1) a0) vlX7_326 viX7_tightRows rfl rfl (by decide) rfl (by rw [hR.1, hR.2]; decide) (Nat.le_of_ble_eq_true rfl) dX7_count_126 (ok_qI fun v11 s12 => ?_)
      exact ok_ireturn C dX7_count_129
    refine ok_tsw C 6 136 dX7_count_33 ⟨by decide, by decide⟩ rfl (by decide) ?_ (fun hc6 => ?_)
    · exact oX7_count_136 C T hn hR hin a0 x1 s2
    refine ok_tsw C 7 136 dX7_count_33 ⟨by decide, by decide⟩ rfl (by decide) ?_ (fun hc7 => ?_)
    · exact oX7_count_136 C T hn hR hin a0 x1 s2
    refine ok_tsw C 8 136 dX7_count_33 ⟨by decide, by decide⟩ rfl (by decide) ?_ (fun hc8 => ?_)
    · exact oX7_count_136 C T hn hR hin a0 x1 s2
    refine ok_tsw C 9 136 dX7_count_33 ⟨by decide, by decide⟩ rfl (by decide) ?_ (fun hc9 => ?_)
    · exact oX7_count_136 C T hn hR hin a0 x1 s2
    refine ok_tsw C 10 136 dX7_count_33 ⟨by decide, by decide⟩ rfl (by decide) ?_ (fun hc10 => ?_)
    · exact oX7_count_136 C T hn hR hin a0 x1 s2
    refine ok_tsw C 11 130 dX7_count_33 ⟨by decide, by decide⟩ rfl (by decide) ?_ (fun hc11 => ?_)
    · refine ok_aload_n C 0 dX7_count_130 rfl ?_
      refine ok_iconst C (v := 0) dX7_count_131 (by decide) ?_
      refine ok_callV C T [.int 0] (F := fX7_leftAll a0 0) (ctX7_leftAll (C.2.2.2.2.2.2.2.2.1) a0 0) vlX7_329 viX7_leftAll rfl rfl (by decide) rfl (by rw [hR.1, hR.2]; decide) (Nat.le_of_ble_eq_true rfl) dX7_count_132 (ok_qI fun v13 s14 => ?_)
      exact ok_ireturn C dX7_count_135
    refine ok_tdf C 136 dX7_count_33 (by have nhc0 := ax_ne hc0; have nhc1 := ax_ne hc1; have nhc2 := ax_ne hc2; have nhc3 := ax_ne hc3; have nhc4 := ax_ne hc4; have nhc5 := ax_ne hc5; have nhc6 := ax_ne hc6; have nhc7 := ax_ne hc7; have nhc8 := ax_ne hc8; have nhc9 := ax_ne hc9; have nhc10 := ax_ne hc10; have nhc11 := ax_ne hc11; rw [show ((0 : Int32)).toInt = 0 from rfl] at nhc0; rw [show ((1 : Int32)).toInt = 1 from rfl] at nhc1; rw [show ((2 : Int32)).toInt = 2 from rfl] at nhc2; rw [show ((3 : Int32)).toInt = 3 from rfl] at nhc3; rw [show ((4 : Int32)).toInt = 4 from rfl] at nhc4; rw [show ((5 : Int32)).toInt = 5 from rfl] at nhc5; rw [show ((6 : Int32)).toInt = 6 from rfl] at nhc6; rw [show ((7 : Int32)).toInt = 7 from rfl] at nhc7; rw [show ((8 : Int32)).toInt = 8 from rfl] at nhc8; rw [show ((9 : Int32)).toInt = 9 from rfl] at nhc9; rw [show ((10 : Int32)).toInt = 10 from rfl] at nhc10; rw [show ((11 : Int32)).toInt = 11 from rfl] at nhc11; omega) (by decide) ?_
    exact oX7_count_136 C T hn hR hin a0 x1 s2
  · refine ok_iconst C (v := 0) dX7_count_30 (by decide) ?_
    exact ok_ireturn C dX7_count_31
set_option maxHeartbeats 4000000 in
theorem oX7_count {Γ : CX} (C : OKC Γ cX7_count RX7 (some (.int))) (T : ∀ z ∈ (cx_c Γ).exceptionTable.toList, False) (hn : cx_nL Γ = 2) (hR : cx_fr Γ = 8 ∧ cx_lo Γ = 211) (hin : (cx_meth Γ).name = yX7_count.name) : ∀ (a0 : Nat) (x1 : Int32) (s0 : AS), OK Γ 0 [(0, .ref a0), (1, .int x1)] [] (fX7_count a0 x1 s0) s0 := by
  intro a0 x1 s0
  unfold fX7_count
  refine ok_aload_n C 0 dX7_count_0 rfl ?_
  refine ok_callV C T [] (F := fX7_notLoaded a0) (ctX7_notLoaded (C.2.2.2.2.2.2.2.2.1) a0) vlX7_320 viX7_notLoaded rfl rfl (by decide) rfl (by rw [hR.1, hR.2]; decide) (Nat.le_of_ble_eq_true rfl) dX7_count_1 (ok_qI fun v1 s2 => ?_)
  refine ok_if_ne C 30 dX7_count_4 (by decide) ?_ ?_
  · refine ok_iconst C (v := 0) dX7_count_30 (by decide) ?_
    exact ok_ireturn C dX7_count_31
  · refine ok_aload_n C 0 dX7_count_7 rfl ?_
    refine ok_iload_n C 1 dX7_count_8 rfl ?_
    refine ok_iconst C (v := 0) dX7_count_9 (by decide) ?_
    refine ok_bipush C (v := 11) dX7_count_10 (by decide) ?_
    refine ok_callS C T [.int x1, .int 0, .int 11] (F := fX7_in x1 0 11) (ctX7_in (C.2.2.2.2.2.2.2.2.1) x1 0 11) vlX7_143 kw_793 rfl (by rw [hR.1, hR.2]; decide) (Nat.le_of_ble_eq_true rfl) dX7_count_12 (ok_qI fun v3 s4 => ?_)
    refine ok_if_ne C 22 dX7_count_15 (by decide) ?_ ?_
    · refine ok_iconst C (v := 0) dX7_count_22 (by decide) ?_
      exact oX7_count_23 C T hn hR hin a0 x1 a0 0 s4
    · refine ok_iconst C (v := 1) dX7_count_18 (by decide) ?_
      refine ok_goto C 23 dX7_count_19 (by decide) ?_
      exact oX7_count_23 C T hn hR hin a0 x1 a0 1 s4
theorem ctX7_count {l : Launch} (hl : l.stackTraces = false) {D : va_G} {dA : Nat → ClassId} {B0 : Nat} (a0 : Nat) (x1 : Int32) : Ct l D dA B0 yX7_count (.code yX7_count cX7_count 2 (some (.int)) :: ax_ALL) 8 211 [.ref a0, .int x1] (fX7_count a0 x1) :=
  Ct.of hl (by decide +kernel) (Nat.le_of_ble_eq_true rfl) fun Γ C _ _ _ _ e5 e6 e7 T hin => oX7_count C T e5 ⟨e6, e7⟩ hin a0 x1 _
/-! ChaseLockerModel.setting(I)I -/
def fX7_setting_22  (a0 : Nat) (x1 : Int32) (t0 : Nat) (t1 : Int32) (s0 : AS) : Option AR :=
  cV s0 t0 11 (fX7_refuse t0 t1 2 s0) (qI (fun v1 s2 =>
  if v1 = 0 then (
    if x1 = 0 then (
      gI s2 a0 11 2 (fun v8 =>
      some (.inl (some (.int v8)), s2)))
    else (
      if x1 = (1 : Int32) then (
        gI s2 a0 11 4 (fun v7 =>
        some (.inl (some (.int v7)), s2)))
      else (
        if x1 = (2 : Int32) then (
          gI s2 a0 11 5 (fun v6 =>
          some (.inl (some (.int v6)), s2)))
        else (
          if x1 = (3 : Int32) then (
            gI s2 a0 11 6 (fun v5 =>
            some (.inl (some (.int v5)), s2)))
          else (
            if x1 = (4 : Int32) then (
              gI s2 a0 11 7 (fun v4 =>
              some (.inl (some (.int v4)), s2)))
            else (
              gI s2 a0 11 8 (fun v3 =>
              some (.inl (some (.int v3)), s2))))))))
  else (
    some (.inl (some (.int 0)), s2))))
def fX7_setting (a0 : Nat) (x1 : Int32) (s0 : AS) : Option AR :=
  cV s0 a0 11 (fX7_notLoaded a0 s0) (qI (fun v1 s2 =>
  if v1 = 0 then (
    cS s2 (fX7_in x1 0 5 s2) (qI (fun v3 s4 =>
    if v3 = 0 then (
      fX7_setting_22 a0 x1 a0 1 s4)
    else (
      fX7_setting_22 a0 x1 a0 0 s4))))
  else (
    some (.inl (some (.int 0)), s2))))
set_option maxHeartbeats 4000000 in
theorem oX7_setting_22 {Γ : CX} (C : OKC Γ cX7_setting RX7 (some (.int))) (T : ∀ z ∈ (cx_c Γ).exceptionTable.toList, False) (hn : cx_nL Γ = 2) (hR : cx_fr Γ = 3 ∧ cx_lo Γ = 102) (hin : (cx_meth Γ).name = yX7_setting.name) : ∀ (a0 : Nat) (x1 : Int32) (t0 : Nat) (t1 : Int32) (s0 : AS), OK Γ 22 [(0, .ref a0), (1, .int x1)] [.int t1, .ref t0] (fX7_setting_22  a0 x1 t0 t1 s0) s0 := by
  intro a0 x1 t0 t1 s0
  unfold fX7_setting_22
  refine ok_iconst C (v := 2) dX7_setting_22 (by decide) ?_
  refine ok_callV C T [.int t1, .int 2] (F := fX7_refuse t0 t1 2) (ctX7_refuse (C.2.2.2.2.2.2.2.2.1) t0 t1 2) vlX7_74 viX7_refuse rfl rfl (by decide) rfl (by rw [hR.1, hR.2]; decide) (Nat.le_of_ble_eq_true rfl) dX7_setting_23 (ok_qI fun v1 s2 => ?_)
  refine ok_if_eq C 31 dX7_setting_26 (by decide) ?_ ?_
  · refine ok_iload_n C 1 dX7_setting_31 rfl ?_
    refine ok_if_ne C 42 dX7_setting_32 (by decide) ?_ ?_
    · refine ok_iload_n C 1 dX7_setting_42 rfl ?_
      refine ok_iconst C (v := 1) dX7_setting_43 (by decide) ?_
      refine ok_icmp_ne C 54 dX7_setting_44 (by decide) ?_ ?_
      · refine ok_iload_n C 1 dX7_setting_54 rfl ?_
        refine ok_iconst C (v := 2) dX7_setting_55 (by decide) ?_
        refine ok_icmp_ne C 66 dX7_setting_56 (by decide) ?_ ?_
        · refine ok_iload_n C 1 dX7_setting_66 rfl ?_
          refine ok_iconst C (v := 3) dX7_setting_67 (by decide) ?_
          refine ok_icmp_ne C 78 dX7_setting_68 (by decide) ?_ ?_
          · refine ok_iload_n C 1 dX7_setting_78 rfl ?_
            refine ok_iconst C (v := 4) dX7_setting_79 (by decide) ?_
            refine ok_icmp_ne C 90 dX7_setting_80 (by decide) ?_ ?_
            · refine ok_aload_n C 0 dX7_setting_90 rfl ?_
              refine ok_getI C frX7_169_11 dX7_setting_91 (fun v3 => ?_)
              exact ok_ireturn C dX7_setting_94
            · refine ok_aload_n C 0 dX7_setting_83 rfl ?_
              refine ok_getI C frX7_166_11 dX7_setting_84 (fun v4 => ?_)
              refine ok_goto C 94 dX7_setting_87 (by decide) ?_
              exact ok_ireturn C dX7_setting_94
          · refine ok_aload_n C 0 dX7_setting_71 rfl ?_
            refine ok_getI C frX7_163_11 dX7_setting_72 (fun v5 => ?_)
            refine ok_goto C 94 dX7_setting_75 (by decide) ?_
            exact ok_ireturn C dX7_setting_94
        · refine ok_aload_n C 0 dX7_setting_59 rfl ?_
          refine ok_getI C frX7_160_11 dX7_setting_60 (fun v6 => ?_)
          refine ok_goto C 94 dX7_setting_63 (by decide) ?_
          exact ok_ireturn C dX7_setting_94
      · refine ok_aload_n C 0 dX7_setting_47 rfl ?_
        refine ok_getI C frX7_157_11 dX7_setting_48 (fun v7 => ?_)
        refine ok_goto C 94 dX7_setting_51 (by decide) ?_
        exact ok_ireturn C dX7_setting_94
    · refine ok_aload_n C 0 dX7_setting_35 rfl ?_
      refine ok_getI C frX7_151_11 dX7_setting_36 (fun v8 => ?_)
      refine ok_goto C 94 dX7_setting_39 (by decide) ?_
      exact ok_ireturn C dX7_setting_94
  · refine ok_iconst C (v := 0) dX7_setting_29 (by decide) ?_
    exact ok_ireturn C dX7_setting_30
set_option maxHeartbeats 4000000 in
theorem oX7_setting {Γ : CX} (C : OKC Γ cX7_setting RX7 (some (.int))) (T : ∀ z ∈ (cx_c Γ).exceptionTable.toList, False) (hn : cx_nL Γ = 2) (hR : cx_fr Γ = 3 ∧ cx_lo Γ = 102) (hin : (cx_meth Γ).name = yX7_setting.name) : ∀ (a0 : Nat) (x1 : Int32) (s0 : AS), OK Γ 0 [(0, .ref a0), (1, .int x1)] [] (fX7_setting a0 x1 s0) s0 := by
  intro a0 x1 s0
  unfold fX7_setting
  refine ok_aload_n C 0 dX7_setting_0 rfl ?_
  refine ok_callV C T [] (F := fX7_notLoaded a0) (ctX7_notLoaded (C.2.2.2.2.2.2.2.2.1) a0) vlX7_320 viX7_notLoaded rfl rfl (by decide) rfl (by rw [hR.1, hR.2]; decide) (Nat.le_of_ble_eq_true rfl) dX7_setting_1 (ok_qI fun v1 s2 => ?_)
  refine ok_if_ne C 29 dX7_setting_4 (by decide) ?_ ?_
  · refine ok_iconst C (v := 0) dX7_setting_29 (by decide) ?_
    exact ok_ireturn C dX7_setting_30
  · refine ok_aload_n C 0 dX7_setting_7 rfl ?_
    refine ok_iload_n C 1 dX7_setting_8 rfl ?_
    refine ok_iconst C (v := 0) dX7_setting_9 (by decide) ?_
    refine ok_iconst C (v := 5) dX7_setting_10 (by decide) ?_
    refine ok_callS C T [.int x1, .int 0, .int 5] (F := fX7_in x1 0 5) (ctX7_in (C.2.2.2.2.2.2.2.2.1) x1 0 5) vlX7_143 kw_793 rfl (by rw [hR.1, hR.2]; decide) (Nat.le_of_ble_eq_true rfl) dX7_setting_11 (ok_qI fun v3 s4 => ?_)
    refine ok_if_ne C 21 dX7_setting_14 (by decide) ?_ ?_
    · refine ok_iconst C (v := 0) dX7_setting_21 (by decide) ?_
      exact oX7_setting_22 C T hn hR hin a0 x1 a0 0 s4
    · refine ok_iconst C (v := 1) dX7_setting_17 (by decide) ?_
      refine ok_goto C 22 dX7_setting_18 (by decide) ?_
      exact oX7_setting_22 C T hn hR hin a0 x1 a0 1 s4
theorem ctX7_setting {l : Launch} (hl : l.stackTraces = false) {D : va_G} {dA : Nat → ClassId} {B0 : Nat} (a0 : Nat) (x1 : Int32) : Ct l D dA B0 yX7_setting (.code yX7_setting cX7_setting 2 (some (.int)) :: ax_ALL) 3 102 [.ref a0, .int x1] (fX7_setting a0 x1) :=
  Ct.of hl (by decide +kernel) (Nat.le_of_ble_eq_true rfl) fun Γ C _ _ _ _ e5 e6 e7 T hin => oX7_setting C T e5 ⟨e6, e7⟩ hin a0 x1 _
/-! ChaseLockerModel.isRow(I)Z -/
def fX7_isRow (a0 : Nat) (x1 : Int32) (s0 : AS) : Option AR :=
  gI s0 a0 11 3 (fun v1 =>
  cS s0 (fX7_in x1 0 (v1 - 1) s0) (qI (fun v2 s3 =>
  rZ v2 s3)))
set_option maxHeartbeats 4000000 in
theorem oX7_isRow {Γ : CX} (C : OKC Γ cX7_isRow RX7 (some (.boolean))) (T : ∀ z ∈ (cx_c Γ).exceptionTable.toList, False) (hn : cx_nL Γ = 2) (hR : cx_fr Γ = 2 ∧ cx_lo Γ = 82) (hin : (cx_meth Γ).name = yX7_isRow.name) : ∀ (a0 : Nat) (x1 : Int32) (s0 : AS), OK Γ 0 [(0, .ref a0), (1, .int x1)] [] (fX7_isRow a0 x1 s0) s0 := by
  intro a0 x1 s0
  unfold fX7_isRow
  refine ok_iload_n C 1 dX7_isRow_0 rfl ?_
  refine ok_iconst C (v := 0) dX7_isRow_1 (by decide) ?_
  refine ok_aload_n C 0 dX7_isRow_2 rfl ?_
  refine ok_getI C frX7_154_11 dX7_isRow_3 (fun v1 => ?_)
  refine ok_iconst C (v := 1) dX7_isRow_6 (by decide) ?_
  refine ok_isub C dX7_isRow_7 ?_
  refine ok_callS C T [.int x1, .int 0, .int (v1 - 1)] (F := fX7_in x1 0 (v1 - 1)) (ctX7_in (C.2.2.2.2.2.2.2.2.1) x1 0 (v1 - 1)) vlX7_143 kw_793 rfl (by rw [hR.1, hR.2]; decide) (Nat.le_of_ble_eq_true rfl) dX7_isRow_8 (ok_qI fun v2 s3 => ?_)
  exact ok_zreturn C dX7_isRow_11
theorem ctX7_isRow {l : Launch} (hl : l.stackTraces = false) {D : va_G} {dA : Nat → ClassId} {B0 : Nat} (a0 : Nat) (x1 : Int32) : Ct l D dA B0 yX7_isRow (.code yX7_isRow cX7_isRow 2 (some (.boolean)) :: ax_ALL) 2 82 [.ref a0, .int x1] (fX7_isRow a0 x1) :=
  Ct.of hl (by decide +kernel) (Nat.le_of_ble_eq_true rfl) fun Γ C _ _ _ _ e5 e6 e7 T hin => oX7_isRow C T e5 ⟨e6, e7⟩ hin a0 x1 _
/-! ChaseLockerModel.noRow(I)Z -/
def fX7_noRow_21  (t0 : Nat) (t1 : Int32) (s0 : AS) : Option AR :=
  cV s0 t0 11 (fX7_refuse t0 t1 2 s0) (qI (fun v1 s2 =>
  if v1 = 0 then (
    rZ 0 s2)
  else (
    rZ 1 s2)))
def fX7_noRow (a0 : Nat) (x1 : Int32) (s0 : AS) : Option AR :=
  cV s0 a0 11 (fX7_notLoaded a0 s0) (qI (fun v1 s2 =>
  if v1 = 0 then (
    cV s2 a0 11 (fX7_isRow a0 x1 s2) (qI (fun v3 s4 =>
    if v3 = 0 then (
      fX7_noRow_21 a0 1 s4)
    else (
      fX7_noRow_21 a0 0 s4))))
  else (
    rZ 1 s2)))
set_option maxHeartbeats 4000000 in
theorem oX7_noRow_21 {Γ : CX} (C : OKC Γ cX7_noRow RX7 (some (.boolean))) (T : ∀ z ∈ (cx_c Γ).exceptionTable.toList, False) (hn : cx_nL Γ = 2) (hR : cx_fr Γ = 3 ∧ cx_lo Γ = 103) (hin : (cx_meth Γ).name = yX7_noRow.name) : ∀ (t0 : Nat) (t1 : Int32) (s0 : AS), OK Γ 21 [] [.int t1, .ref t0] (fX7_noRow_21  t0 t1 s0) s0 := by
  intro t0 t1 s0
  unfold fX7_noRow_21
  refine ok_iconst C (v := 2) dX7_noRow_21 (by decide) ?_
  refine ok_callV C T [.int t1, .int 2] (F := fX7_refuse t0 t1 2) (ctX7_refuse (C.2.2.2.2.2.2.2.2.1) t0 t1 2) vlX7_74 viX7_refuse rfl rfl (by decide) rfl (by rw [hR.1, hR.2]; decide) (Nat.le_of_ble_eq_true rfl) dX7_noRow_22 (ok_qI fun v1 s2 => ?_)
  refine ok_if_eq C 32 dX7_noRow_25 (by decide) ?_ ?_
  · refine ok_iconst C (v := 0) dX7_noRow_32 (by decide) ?_
    exact ok_zreturn C dX7_noRow_33
  · refine ok_iconst C (v := 1) dX7_noRow_28 (by decide) ?_
    refine ok_goto C 33 dX7_noRow_29 (by decide) ?_
    exact ok_zreturn C dX7_noRow_33
set_option maxHeartbeats 4000000 in
theorem oX7_noRow {Γ : CX} (C : OKC Γ cX7_noRow RX7 (some (.boolean))) (T : ∀ z ∈ (cx_c Γ).exceptionTable.toList, False) (hn : cx_nL Γ = 2) (hR : cx_fr Γ = 3 ∧ cx_lo Γ = 103) (hin : (cx_meth Γ).name = yX7_noRow.name) : ∀ (a0 : Nat) (x1 : Int32) (s0 : AS), OK Γ 0 [(0, .ref a0), (1, .int x1)] [] (fX7_noRow a0 x1 s0) s0 := by
  intro a0 x1 s0
  unfold fX7_noRow
  refine ok_aload_n C 0 dX7_noRow_0 rfl ?_
  refine ok_callV C T [] (F := fX7_notLoaded a0) (ctX7_notLoaded (C.2.2.2.2.2.2.2.2.1) a0) vlX7_320 viX7_notLoaded rfl rfl (by decide) rfl (by rw [hR.1, hR.2]; decide) (Nat.le_of_ble_eq_true rfl) dX7_noRow_1 (ok_qI fun v1 s2 => ?_)
  refine ok_if_ne C 28 dX7_noRow_4 (by decide) ?_ ?_
  · refine ok_iconst C (v := 1) dX7_noRow_28 (by decide) ?_
    refine ok_goto C 33 dX7_noRow_29 (by decide) ?_
    exact ok_zreturn C dX7_noRow_33
  · refine ok_aload_n C 0 dX7_noRow_7 rfl ?_
    refine ok_aload_n C 0 dX7_noRow_8 rfl ?_
    refine ok_iload_n C 1 dX7_noRow_9 rfl ?_
    refine ok_callV C T [.int x1] (F := fX7_isRow a0 x1) (ctX7_isRow (C.2.2.2.2.2.2.2.2.1) a0 x1) vlX7_332 viX7_isRow rfl rfl (by decide) rfl (by rw [hR.1, hR.2]; decide) (Nat.le_of_ble_eq_true rfl) dX7_noRow_10 (ok_qI fun v3 s4 => ?_)
    refine ok_if_ne C 20 dX7_noRow_13 (by decide) ?_ ?_
    · refine ok_iconst C (v := 0) dX7_noRow_20 (by decide) ?_
      refine OK.sub (lv' := []) [] rfl ?_
      exact oX7_noRow_21 C T hn hR hin a0 0 s4
    · refine ok_iconst C (v := 1) dX7_noRow_16 (by decide) ?_
      refine ok_goto C 21 dX7_noRow_17 (by decide) ?_
      refine OK.sub (lv' := []) [] rfl ?_
      exact oX7_noRow_21 C T hn hR hin a0 1 s4
theorem ctX7_noRow {l : Launch} (hl : l.stackTraces = false) {D : va_G} {dA : Nat → ClassId} {B0 : Nat} (a0 : Nat) (x1 : Int32) : Ct l D dA B0 yX7_noRow (.code yX7_noRow cX7_noRow 2 (some (.boolean)) :: ax_ALL) 3 103 [.ref a0, .int x1] (fX7_noRow a0 x1) :=
  Ct.of hl (by decide +kernel) (Nat.le_of_ble_eq_true rfl) fun Γ C _ _ _ _ e5 e6 e7 T hin => oX7_noRow C T e5 ⟨e6, e7⟩ hin a0 x1 _
/-! ChaseLockerModel.row(II)I -/
def fX7_row_24  (a0 : Nat) (x1 : Int32) (x2 : Int32) (t0 : Nat) (t1 : Int32) (s0 : AS) : Option AR :=
  cV s0 t0 11 (fX7_refuse t0 t1 3 s0) (qI (fun v1 s2 =>
  if v1 = 0 then (
    if x2 = 0 then (
      cV s2 a0 11 (fX7_of a0 x1 0 s2) (qI (fun v3 s4 =>
      some (.inl (some (.int v3)), s4))))
    else (
    if x2 = 1 then (
      cV s2 a0 11 (fX7_of a0 x1 1 s2) (qI (fun v5 s6 =>
      some (.inl (some (.int v5)), s6))))
    else (
    if x2 = 2 then (
      cV s2 a0 11 (fX7_filledLong a0 x1 s2) (qI (fun v7 s8 =>
      some (.inl (some (.int v7)), s8))))
    else (
    if x2 = 3 then (
      cV s2 a0 11 (fX7_gap a0 x1 s2) (qI (fun v9 s10 =>
      some (.inl (some (.int v9)), s10))))
    else (
    if x2 = 4 then (
      cV s2 a0 11 (fX7_of a0 x1 2 s2) (qI (fun v11 s12 =>
      some (.inl (some (.int v11)), s12))))
    else (
    if x2 = 5 then (
      cV s2 a0 11 (fX7_of a0 x1 4 s2) (qI (fun v13 s14 =>
      some (.inl (some (.int v13)), s14))))
    else (
    if x2 = 6 then (
      cV s2 a0 11 (fX7_woodIn a0 x1 s2) (qI (fun v15 s16 =>
      some (.inl (some (.int v15)), s16))))
    else (
    if x2 = 7 then (
      cV s2 a0 11 (fX7_blocksLong a0 x1 s2) (qI (fun v17 s18 =>
      some (.inl (some (.int v17)), s18))))
    else (
    cV s2 a0 11 (fX7_hasQuoin a0 x1 s2) (qI (fun v19 s20 =>
    if v19 = 0 then (
      some (.inl (some (.int ((-1)))), s20))
    else (
      cV s20 a0 11 (fX7_of a0 x1 3 s20) (qI (fun v21 s22 =>
      some (.inl (some (.int v21)), s22)))))))))))))))
  else (
    some (.inl (some (.int 0)), s2))))
def fX7_row (a0 : Nat) (x1 : Int32) (x2 : Int32) (s0 : AS) : Option AR :=
  cV s0 a0 11 (fX7_noRow a0 x1 s0) (qI (fun v1 s2 =>
  if v1 = 0 then (
    cS s2 (fX7_in x2 0 8 s2) (qI (fun v3 s4 =>
    if v3 = 0 then (
      fX7_row_24 a0 x1 x2 a0 1 s4)
    else (
      fX7_row_24 a0 x1 x2 a0 0 s4))))
  else (
    some (.inl (some (.int 0)), s2))))
set_option maxHeartbeats 4000000 in
theorem oX7_row_24 {Γ : CX} (C : OKC Γ cX7_row RX7 (some (.int))) (T : ∀ z ∈ (cx_c Γ).exceptionTable.toList, False) (hn : cx_nL Γ = 3) (hR : cx_fr Γ = 6 ∧ cx_lo Γ = 168) (hin : (cx_meth Γ).name = yX7_row.name) : ∀ (a0 : Nat) (x1 : Int32) (x2 : Int32) (t0 : Nat) (t1 : Int32) (s0 : AS), OK Γ 24 [(0, .ref a0), (1, .int x1), (2, .int x2)] [.int t1, .ref t0] (fX7_row_24  a0 x1 x2 t0 t1 s0) s0 := by
  intro a0 x1 x2 t0 t1 s0
  unfold fX7_row_24
  refine ok_iconst C (v := 3) dX7_row_24 (by decide) ?_
  refine ok_callV C T [.int t1, .int 3] (F := fX7_refuse t0 t1 3) (ctX7_refuse (C.2.2.2.2.2.2.2.2.1) t0 t1 3) vlX7_74 viX7_refuse rfl rfl (by decide) rfl (by rw [hR.1, hR.2]; decide) (Nat.le_of_ble_eq_true rfl) dX7_row_25 (ok_qI fun v1 s2 => ?_)
  refine ok_if_eq C 33 dX7_row_28 (by decide) ?_ ?_
  · refine ok_iload_n C 2 dX7_row_33 rfl ?_
    refine ok_tsw C 0 80 dX7_row_34 ⟨by decide, by decide⟩ rfl (by decide) ?_ (fun hc0 => ?_)
    · refine ok_aload_n C 0 dX7_row_80 rfl ?_
      refine ok_iload_n C 1 dX7_row_81 rfl ?_
      refine ok_iconst C (v := 0) dX7_row_82 (by decide) ?_
      refine ok_callV C T [.int x1, .int 0] (F := fX7_of a0 x1 0) (ctX7_of (C.2.2.2.2.2.2.2.2.1) a0 x1 0) vlX7_189 viX7_of rfl rfl (by decide) rfl (by rw [hR.1, hR.2]; decide) (Nat.le_of_ble_eq_true rfl) dX7_row_83 (ok_qI fun v3 s4 => ?_)
      exact ok_ireturn C dX7_row_86
    refine ok_tsw C 1 87 dX7_row_34 ⟨by decide, by decide⟩ rfl (by decide) ?_ (fun hc1 => ?_)
    · refine ok_aload_n C 0 dX7_row_87 rfl ?_
      refine ok_iload_n C 1 dX7_row_88 rfl ?_
      refine ok_iconst C (v := 1) dX7_row_89 (by decide) ?_
      refine ok_callV C T [.int x1, .int 1] (F := fX7_of a0 x1 1) (ctX7_of (C.2.2.2.2.2.2.2.2.1) a0 x1 1) vlX7_189 viX7_of rfl rfl (by decide) rfl (by rw [hR.1, hR.2]; decide) (Nat.le_of_ble_eq_true rfl) dX7_row_90 (ok_qI fun v5 s6 => ?_)
      exact ok_ireturn C dX7_row_93
    refine ok_tsw C 2 94 dX7_row_34 ⟨by decide, by decide⟩ rfl (by decide) ?_ (fun hc2 => ?_)
    · refine ok_aload_n C 0 dX7_row_94 rfl ?_
      refine ok_iload_n C 1 dX7_row_95 rfl ?_
      refine ok_callV C T [.int x1] (F := fX7_filledLong a0 x1) (ctX7_filledLong (C.2.2.2.2.2.2.2.2.1) a0 x1) vlX7_247 viX7_filledLong rfl rfl (by decide) rfl (by rw [hR.1, hR.2]; decide) (Nat.le_of_ble_eq_true rfl) dX7_row_96 (ok_qI fun v7 s8 => ?_)
      exact ok_ireturn C dX7_row_99
    refine ok_tsw C 3 100 dX7_row_34 ⟨by decide, by decide⟩ rfl (by decide) ?_ (fun hc3 => ?_)
    · refine ok_aload_n C 0 dX7_row_100 rfl ?_
      refine ok_iload_n C 1 dX7_row_101 rfl ?_
      refine ok_callV C T [.int x1] (F := fX7_gap a0 x1) (ctX7_gap (C.2.2.2.2.2.2.2.2.1) a0 x1) vlX7_192 viX7_gap rfl rfl (by decide) rfl (by rw [hR.1, hR.2]; decide) (Nat.le_of_ble_eq_true rfl) dX7_row_102 (ok_qI fun v9 s10 => ?_)
      exact ok_ireturn C dX7_row_105
    refine ok_tsw C 4 106 dX7_row_34 ⟨by decide, by decide⟩ rfl (by decide) ?_ (fun hc4 => ?_)
    · refine ok_aload_n C 0 dX7_row_106 rfl ?_
      refine ok_iload_n C 1 dX7_row_107 rfl ?_
      refine ok_iconst C (v := 2) dX7_row_108 (by decide) ?_
      refine ok_callV C T [.int x1, .int 2] (F := fX7_of a0 x1 2) (ctX7_of (C.2.2.2.2.2.2.2.2.1) a0 x1 2) vlX7_189 viX7_of rfl rfl (by decide) rfl (by rw [hR.1, hR.2]; decide) (Nat.le_of_ble_eq_true rfl) dX7_row_109 (ok_qI fun v11 s12 => ?_)
      exact ok_ireturn C dX7_row_112
    refine ok_tsw C 5 113 dX7_row_34 ⟨by decide, by decide⟩ rfl (by decide) ?_ (fun hc5 => ?_)
    · refine ok_aload_n C 0 dX7_row_113 rfl ?_
      refine ok_iload_n C 1 dX7_row_114 rfl ?_
      refine ok_iconst C (v := 4) dX7_row_115 (by decide) ?_
      refine ok_callV C T [.int x1, .int 4] (F := fX7_of a0 x1 4) (ctX7_of (C.2.2.2.2.2.2.2.2.1) a0 x1 4) vlX7_189 viX7_of rfl rfl (by decide) rfl (by rw [hR.1, hR.2]; decide) (Nat.le_of_ble_eq_true rfl) dX7_row_116 (ok_qI fun v13 s14 => ?_)
      exact ok_ireturn C dX7_row_119
    refine ok_tsw C 6 120 dX7_row_34 ⟨by decide, by decide⟩ rfl (by decide) ?_ (fun hc6 => ?_)
    · refine ok_aload_n C 0 dX7_row_120 rfl ?_
      refine ok_iload_n C 1 dX7_row_121 rfl ?_
      refine ok_callV C T [.int x1] (F := fX7_woodIn a0 x1) (ctX7_woodIn (C.2.2.2.2.2.2.2.2.1) a0 x1) vlX7_270 viX7_woodIn rfl rfl (by decide) rfl (by rw [hR.1, hR.2]; decide) (Nat.le_of_ble_eq_true rfl) dX7_row_122 (ok_qI fun v15 s16 => ?_)
      exact ok_ireturn C dX7_row_125
    refine ok_tsw C 7 126 dX7_row_34 ⟨by decide, by decide⟩ rfl (by decide) ?_ (fun hc7 => ?_)
    · refine ok_aload_n C 0 dX7_row_126 rfl ?_
      refine ok_iload_n C 1 dX7_row_127 rfl ?_
      refine ok_callV C T [.int x1] (F := fX7_blocksLong a0 x1) (ctX7_blocksLong (C.2.2.2.2.2.2.2.2.1) a0 x1) vlX7_241 viX7_blocksLong rfl rfl (by decide) rfl (by rw [hR.1, hR.2]; decide) (Nat.le_of_ble_eq_true rfl) dX7_row_128 (ok_qI fun v17 s18 => ?_)
      exact ok_ireturn C dX7_row_131
    refine ok_tdf C 132 dX7_row_34 (by have nhc0 := ax_ne hc0; have nhc1 := ax_ne hc1; have nhc2 := ax_ne hc2; have nhc3 := ax_ne hc3; have nhc4 := ax_ne hc4; have nhc5 := ax_ne hc5; have nhc6 := ax_ne hc6; have nhc7 := ax_ne hc7; rw [show ((0 : Int32)).toInt = 0 from rfl] at nhc0; rw [show ((1 : Int32)).toInt = 1 from rfl] at nhc1; rw [show ((2 : Int32)).toInt = 2 from rfl] at nhc2; rw [show ((3 : Int32)).toInt = 3 from rfl] at nhc3; rw [show ((4 : Int32)).toInt = 4 from rfl] at nhc4; rw [show ((5 : Int32)).toInt = 5 from rfl] at nhc5; rw [show ((6 : Int32)).toInt = 6 from rfl] at nhc6; rw [show ((7 : Int32)).toInt = 7 from rfl] at nhc7; omega) (by decide) ?_
    refine ok_aload_n C 0 dX7_row_132 rfl ?_
    refine ok_iload_n C 1 dX7_row_133 rfl ?_
    refine ok_callV C T [.int x1] (F := fX7_hasQuoin a0 x1) (ctX7_hasQuoin (C.2.2.2.2.2.2.2.2.1) a0 x1) vlX7_238 viX7_hasQuoin rfl rfl (by decide) rfl (by rw [hR.1, hR.2]; decide) (Nat.le_of_ble_eq_true rfl) dX7_row_134 (ok_qI fun v19 s20 => ?_)
    refine ok_if_eq C 149 dX7_row_137 (by decide) ?_ ?_
    · refine ok_iconst C (v := (-1)) dX7_row_149 (by decide) ?_
      exact ok_ireturn C dX7_row_150
    · refine ok_aload_n C 0 dX7_row_140 rfl ?_
      refine ok_iload_n C 1 dX7_row_141 rfl ?_
      refine ok_iconst C (v := 3) dX7_row_142 (by decide) ?_
      refine ok_callV C T [.int x1, .int 3] (F := fX7_of a0 x1 3) (ctX7_of (C.2.2.2.2.2.2.2.2.1) a0 x1 3) vlX7_189 viX7_of rfl rfl (by decide) rfl (by rw [hR.1, hR.2]; decide) (Nat.le_of_ble_eq_true rfl) dX7_row_143 (ok_qI fun v21 s22 => ?_)
      refine ok_goto C 150 dX7_row_146 (by decide) ?_
      exact ok_ireturn C dX7_row_150
  · refine ok_iconst C (v := 0) dX7_row_31 (by decide) ?_
    exact ok_ireturn C dX7_row_32
set_option maxHeartbeats 4000000 in
theorem oX7_row {Γ : CX} (C : OKC Γ cX7_row RX7 (some (.int))) (T : ∀ z ∈ (cx_c Γ).exceptionTable.toList, False) (hn : cx_nL Γ = 3) (hR : cx_fr Γ = 6 ∧ cx_lo Γ = 168) (hin : (cx_meth Γ).name = yX7_row.name) : ∀ (a0 : Nat) (x1 : Int32) (x2 : Int32) (s0 : AS), OK Γ 0 [(0, .ref a0), (1, .int x1), (2, .int x2)] [] (fX7_row a0 x1 x2 s0) s0 := by
  intro a0 x1 x2 s0
  unfold fX7_row
  refine ok_aload_n C 0 dX7_row_0 rfl ?_
  refine ok_iload_n C 1 dX7_row_1 rfl ?_
  refine ok_callV C T [.int x1] (F := fX7_noRow a0 x1) (ctX7_noRow (C.2.2.2.2.2.2.2.2.1) a0 x1) vlX7_335 viX7_noRow rfl rfl (by decide) rfl (by rw [hR.1, hR.2]; decide) (Nat.le_of_ble_eq_true rfl) dX7_row_2 (ok_qI fun v1 s2 => ?_)
  refine ok_if_ne C 31 dX7_row_5 (by decide) ?_ ?_
  · refine ok_iconst C (v := 0) dX7_row_31 (by decide) ?_
    exact ok_ireturn C dX7_row_32
  · refine ok_aload_n C 0 dX7_row_8 rfl ?_
    refine ok_iload_n C 2 dX7_row_9 rfl ?_
    refine ok_iconst C (v := 0) dX7_row_10 (by decide) ?_
    refine ok_bipush C (v := 8) dX7_row_11 (by decide) ?_
    refine ok_callS C T [.int x2, .int 0, .int 8] (F := fX7_in x2 0 8) (ctX7_in (C.2.2.2.2.2.2.2.2.1) x2 0 8) vlX7_143 kw_793 rfl (by rw [hR.1, hR.2]; decide) (Nat.le_of_ble_eq_true rfl) dX7_row_13 (ok_qI fun v3 s4 => ?_)
    refine ok_if_ne C 23 dX7_row_16 (by decide) ?_ ?_
    · refine ok_iconst C (v := 0) dX7_row_23 (by decide) ?_
      exact oX7_row_24 C T hn hR hin a0 x1 x2 a0 0 s4
    · refine ok_iconst C (v := 1) dX7_row_19 (by decide) ?_
      refine ok_goto C 24 dX7_row_20 (by decide) ?_
      exact oX7_row_24 C T hn hR hin a0 x1 x2 a0 1 s4
theorem ctX7_row {l : Launch} (hl : l.stackTraces = false) {D : va_G} {dA : Nat → ClassId} {B0 : Nat} (a0 : Nat) (x1 : Int32) (x2 : Int32) : Ct l D dA B0 yX7_row (.code yX7_row cX7_row 3 (some (.int)) :: ax_ALL) 6 168 [.ref a0, .int x1, .int x2] (fX7_row a0 x1 x2) :=
  Ct.of hl (by decide +kernel) (Nat.le_of_ble_eq_true rfl) fun Γ C _ _ _ _ e5 e6 e7 T hin => oX7_row C T e5 ⟨e6, e7⟩ hin a0 x1 x2 _
/-! ChaseLockerModel.block(II)I -/
def fX7_block_30  (a0 : Nat) (x1 : Int32) (x2 : Int32) (t0 : Nat) (t1 : Int32) (s0 : AS) : Option AR :=
  cV s0 t0 11 (fX7_refuse t0 t1 2 s0) (qI (fun v1 s2 =>
  if v1 = 0 then (
    cV s2 a0 11 (fX7_of a0 x1 (5 + x2) s2) (qI (fun v3 s4 =>
    some (.inl (some (.int v3)), s4))))
  else (
    some (.inl (some (.int 0)), s2))))
def fX7_block (a0 : Nat) (x1 : Int32) (x2 : Int32) (s0 : AS) : Option AR :=
  cV s0 a0 11 (fX7_noRow a0 x1 s0) (qI (fun v1 s2 =>
  if v1 = 0 then (
    cV s2 a0 11 (fX7_of a0 x1 0 s2) (qI (fun v3 s4 =>
    cS s4 (fX7_in x2 0 (v3 - 1) s4) (qI (fun v5 s6 =>
    if v5 = 0 then (
      fX7_block_30 a0 x1 x2 a0 1 s6)
    else (
      fX7_block_30 a0 x1 x2 a0 0 s6))))))
  else (
    some (.inl (some (.int 0)), s2))))
set_option maxHeartbeats 4000000 in
theorem oX7_block_30 {Γ : CX} (C : OKC Γ cX7_block RX7 (some (.int))) (T : ∀ z ∈ (cx_c Γ).exceptionTable.toList, False) (hn : cx_nL Γ = 3) (hR : cx_fr Γ = 4 ∧ cx_lo Γ = 124) (hin : (cx_meth Γ).name = yX7_block.name) : ∀ (a0 : Nat) (x1 : Int32) (x2 : Int32) (t0 : Nat) (t1 : Int32) (s0 : AS), OK Γ 30 [(0, .ref a0), (1, .int x1), (2, .int x2)] [.int t1, .ref t0] (fX7_block_30  a0 x1 x2 t0 t1 s0) s0 := by
  intro a0 x1 x2 t0 t1 s0
  unfold fX7_block_30
  refine ok_iconst C (v := 2) dX7_block_30 (by decide) ?_
  refine ok_callV C T [.int t1, .int 2] (F := fX7_refuse t0 t1 2) (ctX7_refuse (C.2.2.2.2.2.2.2.2.1) t0 t1 2) vlX7_74 viX7_refuse rfl rfl (by decide) rfl (by rw [hR.1, hR.2]; decide) (Nat.le_of_ble_eq_true rfl) dX7_block_31 (ok_qI fun v1 s2 => ?_)
  refine ok_if_eq C 39 dX7_block_34 (by decide) ?_ ?_
  · refine ok_aload_n C 0 dX7_block_39 rfl ?_
    refine ok_iload_n C 1 dX7_block_40 rfl ?_
    refine ok_iconst C (v := 5) dX7_block_41 (by decide) ?_
    refine ok_iload_n C 2 dX7_block_42 rfl ?_
    refine ok_iadd C dX7_block_43 ?_
    refine ok_callV C T [.int x1, .int (5 + x2)] (F := fX7_of a0 x1 (5 + x2)) (ctX7_of (C.2.2.2.2.2.2.2.2.1) a0 x1 (5 + x2)) vlX7_189 viX7_of rfl rfl (by decide) rfl (by rw [hR.1, hR.2]; decide) (Nat.le_of_ble_eq_true rfl) dX7_block_44 (ok_qI fun v3 s4 => ?_)
    exact ok_ireturn C dX7_block_47
  · refine ok_iconst C (v := 0) dX7_block_37 (by decide) ?_
    exact ok_ireturn C dX7_block_38
set_option maxHeartbeats 4000000 in
theorem oX7_block {Γ : CX} (C : OKC Γ cX7_block RX7 (some (.int))) (T : ∀ z ∈ (cx_c Γ).exceptionTable.toList, False) (hn : cx_nL Γ = 3) (hR : cx_fr Γ = 4 ∧ cx_lo Γ = 124) (hin : (cx_meth Γ).name = yX7_block.name) : ∀ (a0 : Nat) (x1 : Int32) (x2 : Int32) (s0 : AS), OK Γ 0 [(0, .ref a0), (1, .int x1), (2, .int x2)] [] (fX7_block a0 x1 x2 s0) s0 := by
  intro a0 x1 x2 s0
  unfold fX7_block
  refine ok_aload_n C 0 dX7_block_0 rfl ?_
  refine ok_iload_n C 1 dX7_block_1 rfl ?_
  refine ok_callV C T [.int x1] (F := fX7_noRow a0 x1) (ctX7_noRow (C.2.2.2.2.2.2.2.2.1) a0 x1) vlX7_335 viX7_noRow rfl rfl (by decide) rfl (by rw [hR.1, hR.2]; decide) (Nat.le_of_ble_eq_true rfl) dX7_block_2 (ok_qI fun v1 s2 => ?_)
  refine ok_if_ne C 37 dX7_block_5 (by decide) ?_ ?_
  · refine ok_iconst C (v := 0) dX7_block_37 (by decide) ?_
    exact ok_ireturn C dX7_block_38
  · refine ok_aload_n C 0 dX7_block_8 rfl ?_
    refine ok_iload_n C 2 dX7_block_9 rfl ?_
    refine ok_iconst C (v := 0) dX7_block_10 (by decide) ?_
    refine ok_aload_n C 0 dX7_block_11 rfl ?_
    refine ok_iload_n C 1 dX7_block_12 rfl ?_
    refine ok_iconst C (v := 0) dX7_block_13 (by decide) ?_
    refine ok_callV C T [.int x1, .int 0] (F := fX7_of a0 x1 0) (ctX7_of (C.2.2.2.2.2.2.2.2.1) a0 x1 0) vlX7_189 viX7_of rfl rfl (by decide) rfl (by rw [hR.1, hR.2]; decide) (Nat.le_of_ble_eq_true rfl) dX7_block_14 (ok_qI fun v3 s4 => ?_)
    refine ok_iconst C (v := 1) dX7_block_17 (by decide) ?_
    refine ok_isub C dX7_block_18 ?_
    refine ok_callS C T [.int x2, .int 0, .int (v3 - 1)] (F := fX7_in x2 0 (v3 - 1)) (ctX7_in (C.2.2.2.2.2.2.2.2.1) x2 0 (v3 - 1)) vlX7_143 kw_793 rfl (by rw [hR.1, hR.2]; decide) (Nat.le_of_ble_eq_true rfl) dX7_block_19 (ok_qI fun v5 s6 => ?_)
    refine ok_if_ne C 29 dX7_block_22 (by decide) ?_ ?_
    · refine ok_iconst C (v := 0) dX7_block_29 (by decide) ?_
      exact oX7_block_30 C T hn hR hin a0 x1 x2 a0 0 s6
    · refine ok_iconst C (v := 1) dX7_block_25 (by decide) ?_
      refine ok_goto C 30 dX7_block_26 (by decide) ?_
      exact oX7_block_30 C T hn hR hin a0 x1 x2 a0 1 s6
theorem ctX7_block {l : Launch} (hl : l.stackTraces = false) {D : va_G} {dA : Nat → ClassId} {B0 : Nat} (a0 : Nat) (x1 : Int32) (x2 : Int32) : Ct l D dA B0 yX7_block (.code yX7_block cX7_block 3 (some (.int)) :: ax_ALL) 4 124 [.ref a0, .int x1, .int x2] (fX7_block a0 x1 x2) :=
  Ct.of hl (by decide +kernel) (Nat.le_of_ble_eq_true rfl) fun Γ C _ _ _ _ e5 e6 e7 T hin => oX7_block C T e5 ⟨e6, e7⟩ hin a0 x1 x2 _
/-! ChaseLockerModel.piece(II)I -/
def fX7_piece_30  (a0 : Nat) (x1 : Int32) (x2 : Int32) (t0 : Nat) (t1 : Int32) (s0 : AS) : Option AR :=
  cV s0 t0 11 (fX7_refuse t0 t1 2 s0) (qI (fun v1 s2 =>
  if v1 = 0 then (
    cV s2 a0 11 (fX7_of a0 x1 (11 + x2) s2) (qI (fun v3 s4 =>
    some (.inl (some (.int v3)), s4))))
  else (
    some (.inl (some (.int 0)), s2))))
def fX7_piece (a0 : Nat) (x1 : Int32) (x2 : Int32) (s0 : AS) : Option AR :=
  cV s0 a0 11 (fX7_noRow a0 x1 s0) (qI (fun v1 s2 =>
  if v1 = 0 then (
    cV s2 a0 11 (fX7_of a0 x1 1 s2) (qI (fun v3 s4 =>
    cS s4 (fX7_in x2 0 (v3 - 1) s4) (qI (fun v5 s6 =>
    if v5 = 0 then (
      fX7_piece_30 a0 x1 x2 a0 1 s6)
    else (
      fX7_piece_30 a0 x1 x2 a0 0 s6))))))
  else (
    some (.inl (some (.int 0)), s2))))
set_option maxHeartbeats 4000000 in
theorem oX7_piece_30 {Γ : CX} (C : OKC Γ cX7_piece RX7 (some (.int))) (T : ∀ z ∈ (cx_c Γ).exceptionTable.toList, False) (hn : cx_nL Γ = 3) (hR : cx_fr Γ = 4 ∧ cx_lo Γ = 124) (hin : (cx_meth Γ).name = yX7_piece.name) : ∀ (a0 : Nat) (x1 : Int32) (x2 : Int32) (t0 : Nat) (t1 : Int32) (s0 : AS), OK Γ 30 [(0, .ref a0), (1, .int x1), (2, .int x2)] [.int t1, .ref t0] (fX7_piece_30  a0 x1 x2 t0 t1 s0) s0 := by
  intro a0 x1 x2 t0 t1 s0
  unfold fX7_piece_30
  refine ok_iconst C (v := 2) dX7_piece_30 (by decide) ?_
  refine ok_callV C T [.int t1, .int 2] (F := fX7_refuse t0 t1 2) (ctX7_refuse (C.2.2.2.2.2.2.2.2.1) t0 t1 2) vlX7_74 viX7_refuse rfl rfl (by decide) rfl (by rw [hR.1, hR.2]; decide) (Nat.le_of_ble_eq_true rfl) dX7_piece_31 (ok_qI fun v1 s2 => ?_)
  refine ok_if_eq C 39 dX7_piece_34 (by decide) ?_ ?_
  · refine ok_aload_n C 0 dX7_piece_39 rfl ?_
    refine ok_iload_n C 1 dX7_piece_40 rfl ?_
    refine ok_bipush C (v := 11) dX7_piece_41 (by decide) ?_
    refine ok_iload_n C 2 dX7_piece_43 rfl ?_
    refine ok_iadd C dX7_piece_44 ?_
    refine ok_callV C T [.int x1, .int (11 + x2)] (F := fX7_of a0 x1 (11 + x2)) (ctX7_of (C.2.2.2.2.2.2.2.2.1) a0 x1 (11 + x2)) vlX7_189 viX7_of rfl rfl (by decide) rfl (by rw [hR.1, hR.2]; decide) (Nat.le_of_ble_eq_true rfl) dX7_piece_45 (ok_qI fun v3 s4 => ?_)
    exact ok_ireturn C dX7_piece_48
  · refine ok_iconst C (v := 0) dX7_piece_37 (by decide) ?_
    exact ok_ireturn C dX7_piece_38
set_option maxHeartbeats 4000000 in
theorem oX7_piece {Γ : CX} (C : OKC Γ cX7_piece RX7 (some (.int))) (T : ∀ z ∈ (cx_c Γ).exceptionTable.toList, False) (hn : cx_nL Γ = 3) (hR : cx_fr Γ = 4 ∧ cx_lo Γ = 124) (hin : (cx_meth Γ).name = yX7_piece.name) : ∀ (a0 : Nat) (x1 : Int32) (x2 : Int32) (s0 : AS), OK Γ 0 [(0, .ref a0), (1, .int x1), (2, .int x2)] [] (fX7_piece a0 x1 x2 s0) s0 := by
  intro a0 x1 x2 s0
  unfold fX7_piece
  refine ok_aload_n C 0 dX7_piece_0 rfl ?_
  refine ok_iload_n C 1 dX7_piece_1 rfl ?_
  refine ok_callV C T [.int x1] (F := fX7_noRow a0 x1) (ctX7_noRow (C.2.2.2.2.2.2.2.2.1) a0 x1) vlX7_335 viX7_noRow rfl rfl (by decide) rfl (by rw [hR.1, hR.2]; decide) (Nat.le_of_ble_eq_true rfl) dX7_piece_2 (ok_qI fun v1 s2 => ?_)
  refine ok_if_ne C 37 dX7_piece_5 (by decide) ?_ ?_
  · refine ok_iconst C (v := 0) dX7_piece_37 (by decide) ?_
    exact ok_ireturn C dX7_piece_38
  · refine ok_aload_n C 0 dX7_piece_8 rfl ?_
    refine ok_iload_n C 2 dX7_piece_9 rfl ?_
    refine ok_iconst C (v := 0) dX7_piece_10 (by decide) ?_
    refine ok_aload_n C 0 dX7_piece_11 rfl ?_
    refine ok_iload_n C 1 dX7_piece_12 rfl ?_
    refine ok_iconst C (v := 1) dX7_piece_13 (by decide) ?_
    refine ok_callV C T [.int x1, .int 1] (F := fX7_of a0 x1 1) (ctX7_of (C.2.2.2.2.2.2.2.2.1) a0 x1 1) vlX7_189 viX7_of rfl rfl (by decide) rfl (by rw [hR.1, hR.2]; decide) (Nat.le_of_ble_eq_true rfl) dX7_piece_14 (ok_qI fun v3 s4 => ?_)
    refine ok_iconst C (v := 1) dX7_piece_17 (by decide) ?_
    refine ok_isub C dX7_piece_18 ?_
    refine ok_callS C T [.int x2, .int 0, .int (v3 - 1)] (F := fX7_in x2 0 (v3 - 1)) (ctX7_in (C.2.2.2.2.2.2.2.2.1) x2 0 (v3 - 1)) vlX7_143 kw_793 rfl (by rw [hR.1, hR.2]; decide) (Nat.le_of_ble_eq_true rfl) dX7_piece_19 (ok_qI fun v5 s6 => ?_)
    refine ok_if_ne C 29 dX7_piece_22 (by decide) ?_ ?_
    · refine ok_iconst C (v := 0) dX7_piece_29 (by decide) ?_
      exact oX7_piece_30 C T hn hR hin a0 x1 x2 a0 0 s6
    · refine ok_iconst C (v := 1) dX7_piece_25 (by decide) ?_
      refine ok_goto C 30 dX7_piece_26 (by decide) ?_
      exact oX7_piece_30 C T hn hR hin a0 x1 x2 a0 1 s6
theorem ctX7_piece {l : Launch} (hl : l.stackTraces = false) {D : va_G} {dA : Nat → ClassId} {B0 : Nat} (a0 : Nat) (x1 : Int32) (x2 : Int32) : Ct l D dA B0 yX7_piece (.code yX7_piece cX7_piece 3 (some (.int)) :: ax_ALL) 4 124 [.ref a0, .int x1, .int x2] (fX7_piece a0 x1 x2) :=
  Ct.of hl (by decide +kernel) (Nat.le_of_ble_eq_true rfl) fun Γ C _ _ _ _ e5 e6 e7 T hin => oX7_piece C T e5 ⟨e6, e7⟩ hin a0 x1 x2 _
/-! ChaseLockerModel.isKind(I)Z -/
def fX7_isKind (a0 : Nat) (x1 : Int32) (s0 : AS) : Option AR :=
  gI s0 a0 11 9 (fun v1 =>
  cS s0 (fX7_in x1 0 (v1 - 1) s0) (qI (fun v2 s3 =>
  rZ v2 s3)))
set_option maxHeartbeats 4000000 in
theorem oX7_isKind {Γ : CX} (C : OKC Γ cX7_isKind RX7 (some (.boolean))) (T : ∀ z ∈ (cx_c Γ).exceptionTable.toList, False) (hn : cx_nL Γ = 2) (hR : cx_fr Γ = 2 ∧ cx_lo Γ = 82) (hin : (cx_meth Γ).name = yX7_isKind.name) : ∀ (a0 : Nat) (x1 : Int32) (s0 : AS), OK Γ 0 [(0, .ref a0), (1, .int x1)] [] (fX7_isKind a0 x1 s0) s0 := by
  intro a0 x1 s0
  unfold fX7_isKind
  refine ok_iload_n C 1 dX7_isKind_0 rfl ?_
  refine ok_iconst C (v := 0) dX7_isKind_1 (by decide) ?_
  refine ok_aload_n C 0 dX7_isKind_2 rfl ?_
  refine ok_getI C frX7_172_11 dX7_isKind_3 (fun v1 => ?_)
  refine ok_iconst C (v := 1) dX7_isKind_6 (by decide) ?_
  refine ok_isub C dX7_isKind_7 ?_
  refine ok_callS C T [.int x1, .int 0, .int (v1 - 1)] (F := fX7_in x1 0 (v1 - 1)) (ctX7_in (C.2.2.2.2.2.2.2.2.1) x1 0 (v1 - 1)) vlX7_143 kw_793 rfl (by rw [hR.1, hR.2]; decide) (Nat.le_of_ble_eq_true rfl) dX7_isKind_8 (ok_qI fun v2 s3 => ?_)
  exact ok_zreturn C dX7_isKind_11
theorem ctX7_isKind {l : Launch} (hl : l.stackTraces = false) {D : va_G} {dA : Nat → ClassId} {B0 : Nat} (a0 : Nat) (x1 : Int32) : Ct l D dA B0 yX7_isKind (.code yX7_isKind cX7_isKind 2 (some (.boolean)) :: ax_ALL) 2 82 [.ref a0, .int x1] (fX7_isKind a0 x1) :=
  Ct.of hl (by decide +kernel) (Nat.le_of_ble_eq_true rfl) fun Γ C _ _ _ _ e5 e6 e7 T hin => oX7_isKind C T e5 ⟨e6, e7⟩ hin a0 x1 _
/-! ChaseLockerModel.usedOf(I)I -/
def fX7_usedOf_57 (r4 : Nat → Int32 → Int32 → Int32 → AS → Option AR) (a0 : Nat) (x1 : Int32) (x2 : Int32) (x3 : Int32) (s0 : AS) : Option AR :=
  lt (x3 + 1) (fun v1 =>
  r4 a0 x1 x2 v1 s0)
def fX7_usedOf_46 (r4 : Nat → Int32 → Int32 → Int32 → AS → Option AR) (r15 : Nat → Int32 → Int32 → Int32 → Int32 → AS → Option AR) (a0 : Nat) (x1 : Int32) (x3 : Int32) (x4 : Int32) (t0 : Int32) (t1 : Int32) (s0 : AS) : Option AR :=
  cS s0 (fX7_flag t1 s0) (qI (fun v1 s2 =>
  lt (t0 + v1) (fun v3 =>
  lt (x4 + 1) (fun v4 =>
  r15 a0 x1 v3 x3 v4 s2))))
def fX7_usedOf_15 (r4 : Nat → Int32 → Int32 → Int32 → AS → Option AR) : Nat → Nat → Int32 → Int32 → Int32 → Int32 → AS → Option AR
  | 0, _, _, _, _, _, _ => none
  | n + 1, a0, x1, x2, x3, x4, s0 =>
    cV s0 a0 11 (fX7_of a0 x3 1 s0) (qI (fun v1 s2 =>
    if v1 ≤ x4 then (
      fX7_usedOf_57 r4 a0 x1 x2 x3 s2)
    else (
      cV s2 a0 11 (fX7_of a0 x3 (11 + x4) s2) (qI (fun v3 s4 =>
      if v3 = x1 then (
        fX7_usedOf_46 r4 (fX7_usedOf_15 r4 n) a0 x1 x3 x4 x2 1 s4)
      else (
        fX7_usedOf_46 r4 (fX7_usedOf_15 r4 n) a0 x1 x3 x4 x2 0 s4))))))
def fX7_usedOf_4  : Nat → Nat → Int32 → Int32 → Int32 → AS → Option AR
  | 0, _, _, _, _, _ => none
  | n + 1, a0, x1, x2, x3, s0 =>
    gI s0 a0 11 3 (fun v1 =>
    if v1 ≤ x3 then (
      some (.inl (some (.int x2)), s0))
    else (
      fX7_usedOf_15 (fX7_usedOf_4 n) FU a0 x1 x2 x3 0 s0))
def fX7_usedOf (a0 : Nat) (x1 : Int32) (s0 : AS) : Option AR :=
  fX7_usedOf_4 FU a0 x1 0 0 s0
set_option maxHeartbeats 4000000 in
theorem oX7_usedOf_57 {Γ : CX} (C : OKC Γ cX7_usedOf RX7 (some (.int))) (T : ∀ z ∈ (cx_c Γ).exceptionTable.toList, False) (hn : cx_nL Γ = 5) (hR : cx_fr Γ = 2 ∧ cx_lo Γ = 82) (hin : (cx_meth Γ).name = yX7_usedOf.name) {r4 : Nat → Int32 → Int32 → Int32 → AS → Option AR} (h4 : ∀ (a0 : Nat) (x1 : Int32) (x2 : Int32) (x3 : Int32) (s0 : AS), OK Γ 4 [(0, .ref a0), (1, .int x1), (2, .int x2), (3, .int x3)] [] (r4 a0 x1 x2 x3 s0) s0) : ∀ (a0 : Nat) (x1 : Int32) (x2 : Int32) (x3 : Int32) (s0 : AS), OK Γ 57 [(0, .ref a0), (1, .int x1), (2, .int x2), (3, .int x3)] [] (fX7_usedOf_57 r4 a0 x1 x2 x3 s0) s0 := by
  intro a0 x1 x2 x3 s0
  unfold fX7_usedOf_57
  refine ok_iincL C 3 (c := 1) (fun v1 => [(3, .int v1), (0, .ref a0), (1, .int x1), (2, .int x2)]) dX7_usedOf_57 rfl rfl (by rw [hn]; decide) (fun _ => rfl) (fun v1 => ?_)
  refine ok_goto C 4 dX7_usedOf_60 (by decide) ?_
  refine OK.sub (lv' := [(0, .ref a0), (1, .int x1), (2, .int x2), (3, .int v1)]) [1, 2, 3, 0] rfl ?_
  exact h4 a0 x1 x2 v1 s0
set_option maxHeartbeats 4000000 in
theorem oX7_usedOf_46 {Γ : CX} (C : OKC Γ cX7_usedOf RX7 (some (.int))) (T : ∀ z ∈ (cx_c Γ).exceptionTable.toList, False) (hn : cx_nL Γ = 5) (hR : cx_fr Γ = 2 ∧ cx_lo Γ = 82) (hin : (cx_meth Γ).name = yX7_usedOf.name) {r4 : Nat → Int32 → Int32 → Int32 → AS → Option AR} {r15 : Nat → Int32 → Int32 → Int32 → Int32 → AS → Option AR} (h4 : ∀ (a0 : Nat) (x1 : Int32) (x2 : Int32) (x3 : Int32) (s0 : AS), OK Γ 4 [(0, .ref a0), (1, .int x1), (2, .int x2), (3, .int x3)] [] (r4 a0 x1 x2 x3 s0) s0) (h15 : ∀ (a0 : Nat) (x1 : Int32) (x2 : Int32) (x3 : Int32) (x4 : Int32) (s0 : AS), OK Γ 15 [(0, .ref a0), (1, .int x1), (2, .int x2), (3, .int x3), (4, .int x4)] [] (r15 a0 x1 x2 x3 x4 s0) s0) : ∀ (a0 : Nat) (x1 : Int32) (x3 : Int32) (x4 : Int32) (t0 : Int32) (t1 : Int32) (s0 : AS), OK Γ 46 [(0, .ref a0), (1, .int x1), (3, .int x3), (4, .int x4)] [.int t1, .int t0] (fX7_usedOf_46 r4 r15 a0 x1 x3 x4 t0 t1 s0) s0 := by
  intro a0 x1 x3 x4 t0 t1 s0
  unfold fX7_usedOf_46
  refine ok_callS C T [.int t1] (F := fX7_flag t1) (ctX7_flag (C.2.2.2.2.2.2.2.2.1) t1) vlX7_250 kw_882 rfl (by rw [hR.1, hR.2]; decide) (Nat.le_of_ble_eq_true rfl) dX7_usedOf_46 (ok_qI fun v1 s2 => ?_)
  refine ok_iadd C dX7_usedOf_49 ?_
  refine ok_lt (fun v3 => ?_)
  refine ok_istore_n C (i := 2) [(2, .int v3), (0, .ref a0), (1, .int x1), (3, .int x3), (4, .int x4)] dX7_usedOf_50 rfl (by rw [hn]; decide) rfl ?_
  refine ok_iincL C 4 (c := 1) (fun v4 => [(4, .int v4), (2, .int v3), (0, .ref a0), (1, .int x1), (3, .int x3)]) dX7_usedOf_51 rfl rfl (by rw [hn]; decide) (fun _ => rfl) (fun v4 => ?_)
  refine ok_goto C 15 dX7_usedOf_54 (by decide) ?_
  refine OK.sub (lv' := [(0, .ref a0), (1, .int x1), (2, .int v3), (3, .int x3), (4, .int v4)]) [2, 3, 1, 4, 0] rfl ?_
  exact h15 a0 x1 v3 x3 v4 s2
set_option maxHeartbeats 4000000 in
theorem oX7_usedOf_15 {Γ : CX} (C : OKC Γ cX7_usedOf RX7 (some (.int))) (T : ∀ z ∈ (cx_c Γ).exceptionTable.toList, False) (hn : cx_nL Γ = 5) (hR : cx_fr Γ = 2 ∧ cx_lo Γ = 82) (hin : (cx_meth Γ).name = yX7_usedOf.name) {r4 : Nat → Int32 → Int32 → Int32 → AS → Option AR} (h4 : ∀ (a0 : Nat) (x1 : Int32) (x2 : Int32) (x3 : Int32) (s0 : AS), OK Γ 4 [(0, .ref a0), (1, .int x1), (2, .int x2), (3, .int x3)] [] (r4 a0 x1 x2 x3 s0) s0) : ∀ (n : Nat) (a0 : Nat) (x1 : Int32) (x2 : Int32) (x3 : Int32) (x4 : Int32) (s0 : AS), OK Γ 15 [(0, .ref a0), (1, .int x1), (2, .int x2), (3, .int x3), (4, .int x4)] [] (fX7_usedOf_15 r4 n a0 x1 x2 x3 x4 s0) s0 := by
  intro n
  induction n with
  | zero => intro _ _ _ _ _ s0; exact OK.none
  | succ n ih =>
    intro a0 x1 x2 x3 x4 s0
    rw [fX7_usedOf_15]
    refine ok_iload C 4 dX7_usedOf_15 rfl ?_
    refine ok_aload_n C 0 dX7_usedOf_17 rfl ?_
    refine ok_iload_n C 3 dX7_usedOf_18 rfl ?_
    refine ok_iconst C (v := 1) dX7_usedOf_19 (by decide) ?_
    refine ok_callV C T [.int x3, .int 1] (F := fX7_of a0 x3 1) (ctX7_of (C.2.2.2.2.2.2.2.2.1) a0 x3 1) vlX7_189 viX7_of rfl rfl (by decide) rfl (by rw [hR.1, hR.2]; decide) (Nat.le_of_ble_eq_true rfl) dX7_usedOf_20 (ok_qI fun v1 s2 => ?_)
    refine ok_icmp_ge C 57 dX7_usedOf_23 (by decide) ?_ ?_
    · refine OK.sub (lv' := [(0, .ref a0), (1, .int x1), (2, .int x2), (3, .int x3)]) [0, 1, 2, 3] rfl ?_
      exact oX7_usedOf_57 C T hn hR hin h4 a0 x1 x2 x3 s2
    · refine ok_iload_n C 2 dX7_usedOf_26 rfl ?_
      refine ok_aload_n C 0 dX7_usedOf_27 rfl ?_
      refine ok_iload_n C 3 dX7_usedOf_28 rfl ?_
      refine ok_bipush C (v := 11) dX7_usedOf_29 (by decide) ?_
      refine ok_iload C 4 dX7_usedOf_31 rfl ?_
      refine ok_iadd C dX7_usedOf_33 ?_
      refine ok_callV C T [.int x3, .int (11 + x4)] (F := fX7_of a0 x3 (11 + x4)) (ctX7_of (C.2.2.2.2.2.2.2.2.1) a0 x3 (11 + x4)) vlX7_189 viX7_of rfl rfl (by decide) rfl (by rw [hR.1, hR.2]; decide) (Nat.le_of_ble_eq_true rfl) dX7_usedOf_34 (ok_qI fun v3 s4 => ?_)
      refine ok_iload_n C 1 dX7_usedOf_37 rfl ?_
      refine ok_icmp_ne C 45 dX7_usedOf_38 (by decide) ?_ ?_
      · refine ok_iconst C (v := 0) dX7_usedOf_45 (by decide) ?_
        refine OK.sub (lv' := [(0, .ref a0), (1, .int x1), (3, .int x3), (4, .int x4)]) [0, 1, 3, 4] rfl ?_
        exact oX7_usedOf_46 C T hn hR hin h4 ih a0 x1 x3 x4 x2 0 s4
      · refine ok_iconst C (v := 1) dX7_usedOf_41 (by decide) ?_
        refine ok_goto C 46 dX7_usedOf_42 (by decide) ?_
        refine OK.sub (lv' := [(0, .ref a0), (1, .int x1), (3, .int x3), (4, .int x4)]) [0, 1, 3, 4] rfl ?_
        exact oX7_usedOf_46 C T hn hR hin h4 ih a0 x1 x3 x4 x2 1 s4
set_option maxHeartbeats 4000000 in
theorem oX7_usedOf_4 {Γ : CX} (C : OKC Γ cX7_usedOf RX7 (some (.int))) (T : ∀ z ∈ (cx_c Γ).exceptionTable.toList, False) (hn : cx_nL Γ = 5) (hR : cx_fr Γ = 2 ∧ cx_lo Γ = 82) (hin : (cx_meth Γ).name = yX7_usedOf.name) : ∀ (n : Nat) (a0 : Nat) (x1 : Int32) (x2 : Int32) (x3 : Int32) (s0 : AS), OK Γ 4 [(0, .ref a0), (1, .int x1), (2, .int x2), (3, .int x3)] [] (fX7_usedOf_4 n a0 x1 x2 x3 s0) s0 := by
  intro n
  induction n with
  | zero => intro _ _ _ _ s0; exact OK.none
  | succ n ih =>
    intro a0 x1 x2 x3 s0
    rw [fX7_usedOf_4]
    refine ok_iload_n C 3 dX7_usedOf_4 rfl ?_
    refine ok_aload_n C 0 dX7_usedOf_5 rfl ?_
    refine ok_getI C frX7_154_11 dX7_usedOf_6 (fun v1 => ?_)
    refine ok_icmp_ge C 63 dX7_usedOf_9 (by decide) ?_ ?_
    · refine ok_iload_n C 2 dX7_usedOf_63 rfl ?_
      exact ok_ireturn C dX7_usedOf_64
    · refine ok_iconst C (v := 0) dX7_usedOf_12 (by decide) ?_
      refine ok_istore C (i := 4) [(4, .int 0), (0, .ref a0), (1, .int x1), (2, .int x2), (3, .int x3)] dX7_usedOf_13 (by rw [hn]; decide) rfl ?_
      refine OK.sub (lv' := [(0, .ref a0), (1, .int x1), (2, .int x2), (3, .int x3), (4, .int 0)]) [1, 2, 3, 4, 0] rfl ?_
      exact oX7_usedOf_15 C T hn hR hin ih FU a0 x1 x2 x3 0 s0
set_option maxHeartbeats 4000000 in
theorem oX7_usedOf {Γ : CX} (C : OKC Γ cX7_usedOf RX7 (some (.int))) (T : ∀ z ∈ (cx_c Γ).exceptionTable.toList, False) (hn : cx_nL Γ = 5) (hR : cx_fr Γ = 2 ∧ cx_lo Γ = 82) (hin : (cx_meth Γ).name = yX7_usedOf.name) : ∀ (a0 : Nat) (x1 : Int32) (s0 : AS), OK Γ 0 [(0, .ref a0), (1, .int x1)] [] (fX7_usedOf a0 x1 s0) s0 := by
  intro a0 x1 s0
  unfold fX7_usedOf
  refine ok_iconst C (v := 0) dX7_usedOf_0 (by decide) ?_
  refine ok_istore_n C (i := 2) [(2, .int 0), (0, .ref a0), (1, .int x1)] dX7_usedOf_1 rfl (by rw [hn]; decide) rfl ?_
  refine ok_iconst C (v := 0) dX7_usedOf_2 (by decide) ?_
  refine ok_istore_n C (i := 3) [(3, .int 0), (2, .int 0), (0, .ref a0), (1, .int x1)] dX7_usedOf_3 rfl (by rw [hn]; decide) rfl ?_
  refine OK.sub (lv' := [(0, .ref a0), (1, .int x1), (2, .int 0), (3, .int 0)]) [2, 3, 1, 0] rfl ?_
  exact oX7_usedOf_4 C T hn hR hin FU a0 x1 0 0 s0
theorem ctX7_usedOf {l : Launch} (hl : l.stackTraces = false) {D : va_G} {dA : Nat → ClassId} {B0 : Nat} (a0 : Nat) (x1 : Int32) : Ct l D dA B0 yX7_usedOf (.code yX7_usedOf cX7_usedOf 5 (some (.int)) :: ax_ALL) 2 82 [.ref a0, .int x1] (fX7_usedOf a0 x1) :=
  Ct.of hl (by decide +kernel) (Nat.le_of_ble_eq_true rfl) fun Γ C _ _ _ _ e5 e6 e7 T hin => oX7_usedOf C T e5 ⟨e6, e7⟩ hin a0 x1 _
/-! ChaseLockerModel.kind(II)I -/
def fX7_kind_43  (a0 : Nat) (x1 : Int32) (x2 : Int32) (t0 : Nat) (t1 : Int32) (s0 : AS) : Option AR :=
  cV s0 t0 11 (fX7_refuse t0 t1 3 s0) (qI (fun v1 s2 =>
  if v1 = 0 then (
    if x2 = 0 then (
      gR s2 a0 11 10 (fun q9 =>
      aI s2 q9 101 x1 (fun v10 =>
      cS s2 (fX7_flag v10 s2) (qI (fun v11 s12 =>
      some (.inl (some (.int v11)), s12))))))
    else (
      if x2 = (1 : Int32) then (
        gR s2 a0 11 11 (fun q7 =>
        aI s2 q7 100 x1 (fun v8 =>
        some (.inl (some (.int v8)), s2))))
      else (
        if x2 = (2 : Int32) then (
          gR s2 a0 11 12 (fun q5 =>
          aI s2 q5 100 (6 + x1) (fun v6 =>
          some (.inl (some (.int v6)), s2))))
        else (
          cV s2 a0 11 (fX7_usedOf a0 x1 s2) (qI (fun v3 s4 =>
          some (.inl (some (.int v3)), s4)))))))
  else (
    some (.inl (some (.int 0)), s2))))
def fX7_kind_21  (a0 : Nat) (x1 : Int32) (x2 : Int32) (t0 : Nat) (t1 : Int32) (s0 : AS) : Option AR :=
  cV s0 t0 11 (fX7_refuse t0 t1 2 s0) (qI (fun v1 s2 =>
  if v1 = 0 then (
    cS s2 (fX7_in x2 0 3 s2) (qI (fun v3 s4 =>
    if v3 = 0 then (
      fX7_kind_43 a0 x1 x2 a0 1 s4)
    else (
      fX7_kind_43 a0 x1 x2 a0 0 s4))))
  else (
    some (.inl (some (.int 0)), s2))))
def fX7_kind (a0 : Nat) (x1 : Int32) (x2 : Int32) (s0 : AS) : Option AR :=
  cV s0 a0 11 (fX7_notLoaded a0 s0) (qI (fun v1 s2 =>
  if v1 = 0 then (
    cV s2 a0 11 (fX7_isKind a0 x1 s2) (qI (fun v3 s4 =>
    if v3 = 0 then (
      fX7_kind_21 a0 x1 x2 a0 1 s4)
    else (
      fX7_kind_21 a0 x1 x2 a0 0 s4))))
  else (
    some (.inl (some (.int 0)), s2))))
set_option maxHeartbeats 4000000 in
theorem oX7_kind_43 {Γ : CX} (C : OKC Γ cX7_kind RX7 (some (.int))) (T : ∀ z ∈ (cx_c Γ).exceptionTable.toList, False) (hn : cx_nL Γ = 3) (hR : cx_fr Γ = 3 ∧ cx_lo Γ = 106) (hin : (cx_meth Γ).name = yX7_kind.name) : ∀ (a0 : Nat) (x1 : Int32) (x2 : Int32) (t0 : Nat) (t1 : Int32) (s0 : AS), OK Γ 43 [(0, .ref a0), (1, .int x1), (2, .int x2)] [.int t1, .ref t0] (fX7_kind_43  a0 x1 x2 t0 t1 s0) s0 := by
  intro a0 x1 x2 t0 t1 s0
  unfold fX7_kind_43
  refine ok_iconst C (v := 3) dX7_kind_43 (by decide) ?_
  refine ok_callV C T [.int t1, .int 3] (F := fX7_refuse t0 t1 3) (ctX7_refuse (C.2.2.2.2.2.2.2.2.1) t0 t1 3) vlX7_74 viX7_refuse rfl rfl (by decide) rfl (by rw [hR.1, hR.2]; decide) (Nat.le_of_ble_eq_true rfl) dX7_kind_44 (ok_qI fun v1 s2 => ?_)
  refine ok_if_eq C 52 dX7_kind_47 (by decide) ?_ ?_
  · refine ok_iload_n C 2 dX7_kind_52 rfl ?_
    refine ok_if_ne C 68 dX7_kind_53 (by decide) ?_ ?_
    · refine ok_iload_n C 2 dX7_kind_68 rfl ?_
      refine ok_iconst C (v := 1) dX7_kind_69 (by decide) ?_
      refine ok_icmp_ne C 82 dX7_kind_70 (by decide) ?_ ?_
      · refine ok_iload_n C 2 dX7_kind_82 rfl ?_
        refine ok_iconst C (v := 2) dX7_kind_83 (by decide) ?_
        refine ok_icmp_ne C 99 dX7_kind_84 (by decide) ?_ ?_
        · refine ok_aload_n C 0 dX7_kind_99 rfl ?_
          refine ok_iload_n C 1 dX7_kind_100 rfl ?_
          refine ok_callV C T [.int x1] (F := fX7_usedOf a0 x1) (ctX7_usedOf (C.2.2.2.2.2.2.2.2.1) a0 x1) vlX7_341 viX7_usedOf rfl rfl (by decide) rfl (by rw [hR.1, hR.2]; decide) (Nat.le_of_ble_eq_true rfl) dX7_kind_101 (ok_qI fun v3 s4 => ?_)
          exact ok_ireturn C dX7_kind_104
        · refine ok_aload_n C 0 dX7_kind_87 rfl ?_
          refine ok_getR C frX7_17_11 dX7_kind_88 (fun q5 => ?_)
          refine ok_bipush C (v := 6) dX7_kind_91 (by decide) ?_
          refine ok_iload_n C 1 dX7_kind_93 rfl ?_
          refine ok_iadd C dX7_kind_94 ?_
          refine ok_iald C dX7_kind_95 (fun v6 => ?_)
          refine ok_goto C 104 dX7_kind_96 (by decide) ?_
          exact ok_ireturn C dX7_kind_104
      · refine ok_aload_n C 0 dX7_kind_73 rfl ?_
        refine ok_getR C frX7_13_11 dX7_kind_74 (fun q7 => ?_)
        refine ok_iload_n C 1 dX7_kind_77 rfl ?_
        refine ok_iald C dX7_kind_78 (fun v8 => ?_)
        refine ok_goto C 104 dX7_kind_79 (by decide) ?_
        exact ok_ireturn C dX7_kind_104
    · refine ok_aload_n C 0 dX7_kind_56 rfl ?_
      refine ok_getR C frX7_7_11 dX7_kind_57 (fun q9 => ?_)
      refine ok_iload_n C 1 dX7_kind_60 rfl ?_
      refine ok_zald C dX7_kind_61 (fun v10 => ?_)
      refine ok_callS C T [.int v10] (F := fX7_flag v10) (ctX7_flag (C.2.2.2.2.2.2.2.2.1) v10) vlX7_250 kw_882 rfl (by rw [hR.1, hR.2]; decide) (Nat.le_of_ble_eq_true rfl) dX7_kind_62 (ok_qI fun v11 s12 => ?_)
      refine ok_goto C 104 dX7_kind_65 (by decide) ?_
      exact ok_ireturn C dX7_kind_104
  · refine ok_iconst C (v := 0) dX7_kind_50 (by decide) ?_
    exact ok_ireturn C dX7_kind_51
set_option maxHeartbeats 4000000 in
theorem oX7_kind_21 {Γ : CX} (C : OKC Γ cX7_kind RX7 (some (.int))) (T : ∀ z ∈ (cx_c Γ).exceptionTable.toList, False) (hn : cx_nL Γ = 3) (hR : cx_fr Γ = 3 ∧ cx_lo Γ = 106) (hin : (cx_meth Γ).name = yX7_kind.name) : ∀ (a0 : Nat) (x1 : Int32) (x2 : Int32) (t0 : Nat) (t1 : Int32) (s0 : AS), OK Γ 21 [(0, .ref a0), (1, .int x1), (2, .int x2)] [.int t1, .ref t0] (fX7_kind_21  a0 x1 x2 t0 t1 s0) s0 := by
  intro a0 x1 x2 t0 t1 s0
  unfold fX7_kind_21
  refine ok_iconst C (v := 2) dX7_kind_21 (by decide) ?_
  refine ok_callV C T [.int t1, .int 2] (F := fX7_refuse t0 t1 2) (ctX7_refuse (C.2.2.2.2.2.2.2.2.1) t0 t1 2) vlX7_74 viX7_refuse rfl rfl (by decide) rfl (by rw [hR.1, hR.2]; decide) (Nat.le_of_ble_eq_true rfl) dX7_kind_22 (ok_qI fun v1 s2 => ?_)
  refine ok_if_ne C 50 dX7_kind_25 (by decide) ?_ ?_
  · refine ok_iconst C (v := 0) dX7_kind_50 (by decide) ?_
    exact ok_ireturn C dX7_kind_51
  · refine ok_aload_n C 0 dX7_kind_28 rfl ?_
    refine ok_iload_n C 2 dX7_kind_29 rfl ?_
    refine ok_iconst C (v := 0) dX7_kind_30 (by decide) ?_
    refine ok_iconst C (v := 3) dX7_kind_31 (by decide) ?_
    refine ok_callS C T [.int x2, .int 0, .int 3] (F := fX7_in x2 0 3) (ctX7_in (C.2.2.2.2.2.2.2.2.1) x2 0 3) vlX7_143 kw_793 rfl (by rw [hR.1, hR.2]; decide) (Nat.le_of_ble_eq_true rfl) dX7_kind_32 (ok_qI fun v3 s4 => ?_)
    refine ok_if_ne C 42 dX7_kind_35 (by decide) ?_ ?_
    · refine ok_iconst C (v := 0) dX7_kind_42 (by decide) ?_
      exact oX7_kind_43 C T hn hR hin a0 x1 x2 a0 0 s4
    · refine ok_iconst C (v := 1) dX7_kind_38 (by decide) ?_
      refine ok_goto C 43 dX7_kind_39 (by decide) ?_
      exact oX7_kind_43 C T hn hR hin a0 x1 x2 a0 1 s4
set_option maxHeartbeats 4000000 in
theorem oX7_kind {Γ : CX} (C : OKC Γ cX7_kind RX7 (some (.int))) (T : ∀ z ∈ (cx_c Γ).exceptionTable.toList, False) (hn : cx_nL Γ = 3) (hR : cx_fr Γ = 3 ∧ cx_lo Γ = 106) (hin : (cx_meth Γ).name = yX7_kind.name) : ∀ (a0 : Nat) (x1 : Int32) (x2 : Int32) (s0 : AS), OK Γ 0 [(0, .ref a0), (1, .int x1), (2, .int x2)] [] (fX7_kind a0 x1 x2 s0) s0 := by
  intro a0 x1 x2 s0
  unfold fX7_kind
  refine ok_aload_n C 0 dX7_kind_0 rfl ?_
  refine ok_callV C T [] (F := fX7_notLoaded a0) (ctX7_notLoaded (C.2.2.2.2.2.2.2.2.1) a0) vlX7_320 viX7_notLoaded rfl rfl (by decide) rfl (by rw [hR.1, hR.2]; decide) (Nat.le_of_ble_eq_true rfl) dX7_kind_1 (ok_qI fun v1 s2 => ?_)
  refine ok_if_ne C 50 dX7_kind_4 (by decide) ?_ ?_
  · refine ok_iconst C (v := 0) dX7_kind_50 (by decide) ?_
    exact ok_ireturn C dX7_kind_51
  · refine ok_aload_n C 0 dX7_kind_7 rfl ?_
    refine ok_aload_n C 0 dX7_kind_8 rfl ?_
    refine ok_iload_n C 1 dX7_kind_9 rfl ?_
    refine ok_callV C T [.int x1] (F := fX7_isKind a0 x1) (ctX7_isKind (C.2.2.2.2.2.2.2.2.1) a0 x1) vlX7_338 viX7_isKind rfl rfl (by decide) rfl (by rw [hR.1, hR.2]; decide) (Nat.le_of_ble_eq_true rfl) dX7_kind_10 (ok_qI fun v3 s4 => ?_)
    refine ok_if_ne C 20 dX7_kind_13 (by decide) ?_ ?_
    · refine ok_iconst C (v := 0) dX7_kind_20 (by decide) ?_
      exact oX7_kind_21 C T hn hR hin a0 x1 x2 a0 0 s4
    · refine ok_iconst C (v := 1) dX7_kind_16 (by decide) ?_
      refine ok_goto C 21 dX7_kind_17 (by decide) ?_
      exact oX7_kind_21 C T hn hR hin a0 x1 x2 a0 1 s4
theorem ctX7_kind {l : Launch} (hl : l.stackTraces = false) {D : va_G} {dA : Nat → ClassId} {B0 : Nat} (a0 : Nat) (x1 : Int32) (x2 : Int32) : Ct l D dA B0 yX7_kind (.code yX7_kind cX7_kind 3 (some (.int)) :: ax_ALL) 3 106 [.ref a0, .int x1, .int x2] (fX7_kind a0 x1 x2) :=
  Ct.of hl (by decide +kernel) (Nat.le_of_ble_eq_true rfl) fun Γ C _ _ _ _ e5 e6 e7 T hin => oX7_kind C T e5 ⟨e6, e7⟩ hin a0 x1 x2 _
/-! ChaseLockerModel.kindOf(ZI)I -/
def fX7_kindOf (a0 : Nat) (x1 : Int32) (x2 : Int32) (s0 : AS) : Option AR :=
  cV s0 a0 11 (fX7_notLoaded a0 s0) (qI (fun v1 s2 =>
  if v1 = 0 then (
    cV s2 a0 11 (fX7_ofLength a0 x1 x2 s2) (qI (fun v3 s4 =>
    some (.inl (some (.int v3)), s4))))
  else (
    some (.inl (some (.int 0)), s2))))
set_option maxHeartbeats 4000000 in
theorem oX7_kindOf {Γ : CX} (C : OKC Γ cX7_kindOf RX7 (some (.int))) (T : ∀ z ∈ (cx_c Γ).exceptionTable.toList, False) (hn : cx_nL Γ = 3) (hR : cx_fr Γ = 3 ∧ cx_lo Γ = 102) (hin : (cx_meth Γ).name = yX7_kindOf.name) : ∀ (a0 : Nat) (x1 : Int32) (x2 : Int32) (s0 : AS), OK Γ 0 [(0, .ref a0), (1, .int x1), (2, .int x2)] [] (fX7_kindOf a0 x1 x2 s0) s0 := by
  intro a0 x1 x2 s0
  unfold fX7_kindOf
  refine ok_aload_n C 0 dX7_kindOf_0 rfl ?_
  refine ok_callV C T [] (F := fX7_notLoaded a0) (ctX7_notLoaded (C.2.2.2.2.2.2.2.2.1) a0) vlX7_320 viX7_notLoaded rfl rfl (by decide) rfl (by rw [hR.1, hR.2]; decide) (Nat.le_of_ble_eq_true rfl) dX7_kindOf_1 (ok_qI fun v1 s2 => ?_)
  refine ok_if_eq C 11 dX7_kindOf_4 (by decide) ?_ ?_
  · refine ok_aload_n C 0 dX7_kindOf_11 rfl ?_
    refine ok_iload_n C 1 dX7_kindOf_12 rfl ?_
    refine ok_iload_n C 2 dX7_kindOf_13 rfl ?_
    refine ok_callV C T [.int x1, .int x2] (F := fX7_ofLength a0 x1 x2) (ctX7_ofLength (C.2.2.2.2.2.2.2.2.1) a0 x1 x2) vlX7_182 viX7_ofLength rfl rfl (by decide) rfl (by rw [hR.1, hR.2]; decide) (Nat.le_of_ble_eq_true rfl) dX7_kindOf_14 (ok_qI fun v3 s4 => ?_)
    exact ok_ireturn C dX7_kindOf_17
  · refine ok_iconst C (v := 0) dX7_kindOf_7 (by decide) ?_
    refine ok_goto C 17 dX7_kindOf_8 (by decide) ?_
    exact ok_ireturn C dX7_kindOf_17
theorem ctX7_kindOf {l : Launch} (hl : l.stackTraces = false) {D : va_G} {dA : Nat → ClassId} {B0 : Nat} (a0 : Nat) (x1 : Int32) (x2 : Int32) : Ct l D dA B0 yX7_kindOf (.code yX7_kindOf cX7_kindOf 3 (some (.int)) :: ax_ALL) 3 102 [.ref a0, .int x1, .int x2] (fX7_kindOf a0 x1 x2) :=
  Ct.of hl (by decide +kernel) (Nat.le_of_ble_eq_true rfl) fun Γ C _ _ _ _ e5 e6 e7 T hin => oX7_kindOf C T e5 ⟨e6, e7⟩ hin a0 x1 x2 _
/-! ChaseLockerModel.isTight(I)Z -/
def fX7_isTight (a0 : Nat) (x1 : Int32) (s0 : AS) : Option AR :=
  cV s0 a0 11 (fX7_noRow a0 x1 s0) (qI (fun v1 s2 =>
  if v1 = 0 then (
    cV s2 a0 11 (fX7_isTightRow a0 x1 s2) (qI (fun v3 s4 =>
    if v3 = 0 then (
      rZ 0 s4)
    else (
      rZ 1 s4))))
  else (
    rZ 0 s2)))
set_option maxHeartbeats 4000000 in
theorem oX7_isTight {Γ : CX} (C : OKC Γ cX7_isTight RX7 (some (.boolean))) (T : ∀ z ∈ (cx_c Γ).exceptionTable.toList, False) (hn : cx_nL Γ = 2) (hR : cx_fr Γ = 7 ∧ cx_lo Γ = 189) (hin : (cx_meth Γ).name = yX7_isTight.name) : ∀ (a0 : Nat) (x1 : Int32) (s0 : AS), OK Γ 0 [(0, .ref a0), (1, .int x1)] [] (fX7_isTight a0 x1 s0) s0 := by
  intro a0 x1 s0
  unfold fX7_isTight
  refine ok_aload_n C 0 dX7_isTight_0 rfl ?_
  refine ok_iload_n C 1 dX7_isTight_1 rfl ?_
  refine ok_callV C T [.int x1] (F := fX7_noRow a0 x1) (ctX7_noRow (C.2.2.2.2.2.2.2.2.1) a0 x1) vlX7_335 viX7_noRow rfl rfl (by decide) rfl (by rw [hR.1, hR.2]; decide) (Nat.le_of_ble_eq_true rfl) dX7_isTight_2 (ok_qI fun v1 s2 => ?_)
  refine ok_if_ne C 20 dX7_isTight_5 (by decide) ?_ ?_
  · refine ok_iconst C (v := 0) dX7_isTight_20 (by decide) ?_
    exact ok_zreturn C dX7_isTight_21
  · refine ok_aload_n C 0 dX7_isTight_8 rfl ?_
    refine ok_iload_n C 1 dX7_isTight_9 rfl ?_
    refine ok_callV C T [.int x1] (F := fX7_isTightRow a0 x1) (ctX7_isTightRow (C.2.2.2.2.2.2.2.2.1) a0 x1) vlX7_317 viX7_isTightRow rfl rfl (by decide) rfl (by rw [hR.1, hR.2]; decide) (Nat.le_of_ble_eq_true rfl) dX7_isTight_10 (ok_qI fun v3 s4 => ?_)
    refine ok_if_eq C 20 dX7_isTight_13 (by decide) ?_ ?_
    · refine ok_iconst C (v := 0) dX7_isTight_20 (by decide) ?_
      exact ok_zreturn C dX7_isTight_21
    · refine ok_iconst C (v := 1) dX7_isTight_16 (by decide) ?_
      refine ok_goto C 21 dX7_isTight_17 (by decide) ?_
      exact ok_zreturn C dX7_isTight_21
theorem ctX7_isTight {l : Launch} (hl : l.stackTraces = false) {D : va_G} {dA : Nat → ClassId} {B0 : Nat} (a0 : Nat) (x1 : Int32) : Ct l D dA B0 yX7_isTight (.code yX7_isTight cX7_isTight 2 (some (.boolean)) :: ax_ALL) 7 189 [.ref a0, .int x1] (fX7_isTight a0 x1) :=
  Ct.of hl (by decide +kernel) (Nat.le_of_ble_eq_true rfl) fun Γ C _ _ _ _ e5 e6 e7 T hin => oX7_isTight C T e5 ⟨e6, e7⟩ hin a0 x1 _
/-! ChaseLockerModel.canPut(II)Z -/
def fX7_canPut_22  (a0 : Nat) (x1 : Int32) (x2 : Int32) (t0 : Nat) (t1 : Int32) (s0 : AS) : Option AR :=
  cV s0 t0 11 (fX7_refuse t0 t1 2 s0) (qI (fun v1 s2 =>
  if v1 = 0 then (
    gR s2 a0 11 12 (fun q3 =>
    aI s2 q3 100 (6 + x2) (fun v4 =>
    if v4 ≤ 0 then (
      rZ 0 s2)
    else (
      cV s2 a0 11 (fX7_gap a0 x1 s2) (qI (fun v5 s6 =>
      gR s6 a0 11 11 (fun q7 =>
      aI s6 q7 100 x2 (fun v8 =>
      if v5 < v8 then (
        rZ 0 s6)
      else (
        rZ 1 s6)))))))))
  else (
    rZ 0 s2)))
def fX7_canPut (a0 : Nat) (x1 : Int32) (x2 : Int32) (s0 : AS) : Option AR :=
  cV s0 a0 11 (fX7_noRow a0 x1 s0) (qI (fun v1 s2 =>
  if v1 = 0 then (
    cV s2 a0 11 (fX7_isKind a0 x2 s2) (qI (fun v3 s4 =>
    if v3 = 0 then (
      fX7_canPut_22 a0 x1 x2 a0 1 s4)
    else (
      fX7_canPut_22 a0 x1 x2 a0 0 s4))))
  else (
    rZ 0 s2)))
set_option maxHeartbeats 4000000 in
theorem oX7_canPut_22 {Γ : CX} (C : OKC Γ cX7_canPut RX7 (some (.boolean))) (T : ∀ z ∈ (cx_c Γ).exceptionTable.toList, False) (hn : cx_nL Γ = 3) (hR : cx_fr Γ = 6 ∧ cx_lo Γ = 168) (hin : (cx_meth Γ).name = yX7_canPut.name) : ∀ (a0 : Nat) (x1 : Int32) (x2 : Int32) (t0 : Nat) (t1 : Int32) (s0 : AS), OK Γ 22 [(0, .ref a0), (1, .int x1), (2, .int x2)] [.int t1, .ref t0] (fX7_canPut_22  a0 x1 x2 t0 t1 s0) s0 := by
  intro a0 x1 x2 t0 t1 s0
  unfold fX7_canPut_22
  refine ok_iconst C (v := 2) dX7_canPut_22 (by decide) ?_
  refine ok_callV C T [.int t1, .int 2] (F := fX7_refuse t0 t1 2) (ctX7_refuse (C.2.2.2.2.2.2.2.2.1) t0 t1 2) vlX7_74 viX7_refuse rfl rfl (by decide) rfl (by rw [hR.1, hR.2]; decide) (Nat.le_of_ble_eq_true rfl) dX7_canPut_23 (ok_qI fun v1 s2 => ?_)
  refine ok_if_ne C 59 dX7_canPut_26 (by decide) ?_ ?_
  · refine ok_iconst C (v := 0) dX7_canPut_59 (by decide) ?_
    exact ok_zreturn C dX7_canPut_60
  · refine ok_aload_n C 0 dX7_canPut_29 rfl ?_
    refine ok_getR C frX7_17_11 dX7_canPut_30 (fun q3 => ?_)
    refine ok_bipush C (v := 6) dX7_canPut_33 (by decide) ?_
    refine ok_iload_n C 2 dX7_canPut_35 rfl ?_
    refine ok_iadd C dX7_canPut_36 ?_
    refine ok_iald C dX7_canPut_37 (fun v4 => ?_)
    refine ok_if_le C 59 dX7_canPut_38 (by decide) ?_ ?_
    · refine ok_iconst C (v := 0) dX7_canPut_59 (by decide) ?_
      exact ok_zreturn C dX7_canPut_60
    · refine ok_aload_n C 0 dX7_canPut_41 rfl ?_
      refine ok_iload_n C 1 dX7_canPut_42 rfl ?_
      refine ok_callV C T [.int x1] (F := fX7_gap a0 x1) (ctX7_gap (C.2.2.2.2.2.2.2.2.1) a0 x1) vlX7_192 viX7_gap rfl rfl (by decide) rfl (by rw [hR.1, hR.2]; decide) (Nat.le_of_ble_eq_true rfl) dX7_canPut_43 (ok_qI fun v5 s6 => ?_)
      refine ok_aload_n C 0 dX7_canPut_46 rfl ?_
      refine ok_getR C frX7_13_11 dX7_canPut_47 (fun q7 => ?_)
      refine ok_iload_n C 2 dX7_canPut_50 rfl ?_
      refine ok_iald C dX7_canPut_51 (fun v8 => ?_)
      refine ok_icmp_lt C 59 dX7_canPut_52 (by decide) ?_ ?_
      · refine ok_iconst C (v := 0) dX7_canPut_59 (by decide) ?_
        exact ok_zreturn C dX7_canPut_60
      · refine ok_iconst C (v := 1) dX7_canPut_55 (by decide) ?_
        refine ok_goto C 60 dX7_canPut_56 (by decide) ?_
        exact ok_zreturn C dX7_canPut_60
set_option maxHeartbeats 4000000 in
theorem oX7_canPut {Γ : CX} (C : OKC Γ cX7_canPut RX7 (some (.boolean))) (T : ∀ z ∈ (cx_c Γ).exceptionTable.toList, False) (hn : cx_nL Γ = 3) (hR : cx_fr Γ = 6 ∧ cx_lo Γ = 168) (hin : (cx_meth Γ).name = yX7_canPut.name) : ∀ (a0 : Nat) (x1 : Int32) (x2 : Int32) (s0 : AS), OK Γ 0 [(0, .ref a0), (1, .int x1), (2, .int x2)] [] (fX7_canPut a0 x1 x2 s0) s0 := by
  intro a0 x1 x2 s0
  unfold fX7_canPut
  refine ok_aload_n C 0 dX7_canPut_0 rfl ?_
  refine ok_iload_n C 1 dX7_canPut_1 rfl ?_
  refine ok_callV C T [.int x1] (F := fX7_noRow a0 x1) (ctX7_noRow (C.2.2.2.2.2.2.2.2.1) a0 x1) vlX7_335 viX7_noRow rfl rfl (by decide) rfl (by rw [hR.1, hR.2]; decide) (Nat.le_of_ble_eq_true rfl) dX7_canPut_2 (ok_qI fun v1 s2 => ?_)
  refine ok_if_ne C 59 dX7_canPut_5 (by decide) ?_ ?_
  · refine ok_iconst C (v := 0) dX7_canPut_59 (by decide) ?_
    exact ok_zreturn C dX7_canPut_60
  · refine ok_aload_n C 0 dX7_canPut_8 rfl ?_
    refine ok_aload_n C 0 dX7_canPut_9 rfl ?_
    refine ok_iload_n C 2 dX7_canPut_10 rfl ?_
    refine ok_callV C T [.int x2] (F := fX7_isKind a0 x2) (ctX7_isKind (C.2.2.2.2.2.2.2.2.1) a0 x2) vlX7_338 viX7_isKind rfl rfl (by decide) rfl (by rw [hR.1, hR.2]; decide) (Nat.le_of_ble_eq_true rfl) dX7_canPut_11 (ok_qI fun v3 s4 => ?_)
    refine ok_if_ne C 21 dX7_canPut_14 (by decide) ?_ ?_
    · refine ok_iconst C (v := 0) dX7_canPut_21 (by decide) ?_
      exact oX7_canPut_22 C T hn hR hin a0 x1 x2 a0 0 s4
    · refine ok_iconst C (v := 1) dX7_canPut_17 (by decide) ?_
      refine ok_goto C 22 dX7_canPut_18 (by decide) ?_
      exact oX7_canPut_22 C T hn hR hin a0 x1 x2 a0 1 s4
theorem ctX7_canPut {l : Launch} (hl : l.stackTraces = false) {D : va_G} {dA : Nat → ClassId} {B0 : Nat} (a0 : Nat) (x1 : Int32) (x2 : Int32) : Ct l D dA B0 yX7_canPut (.code yX7_canPut cX7_canPut 3 (some (.boolean)) :: ax_ALL) 6 168 [.ref a0, .int x1, .int x2] (fX7_canPut a0 x1 x2) :=
  Ct.of hl (by decide +kernel) (Nat.le_of_ble_eq_true rfl) fun Γ C _ _ _ _ e5 e6 e7 T hin => oX7_canPut C T e5 ⟨e6, e7⟩ hin a0 x1 x2 _
/-! ChaseLockerModel.widestGap()I -/
def fX7_widestGap_39 (r13 : Nat → Int32 → Int32 → AS → Option AR) (a0 : Nat) (x2 : Int32) (t0 : Int32) (s0 : AS) : Option AR :=
  lt (x2 + 1) (fun v1 =>
  r13 a0 t0 v1 s0)
def fX7_widestGap_13  : Nat → Nat → Int32 → Int32 → AS → Option AR
  | 0, _, _, _, _ => none
  | n + 1, a0, x1, x2, s0 =>
    gI s0 a0 11 3 (fun v1 =>
    if v1 ≤ x2 then (
      some (.inl (some (.int x1)), s0))
    else (
      cV s0 a0 11 (fX7_gap a0 x2 s0) (qI (fun v2 s3 =>
      cV s3 a0 11 (fX7_gap a0 x1 s3) (qI (fun v4 s5 =>
      if v2 ≤ v4 then (
        fX7_widestGap_39 (fX7_widestGap_13 n) a0 x2 x1 s5)
      else (
        fX7_widestGap_39 (fX7_widestGap_13 n) a0 x2 x2 s5)))))))
def fX7_widestGap (a0 : Nat) (s0 : AS) : Option AR :=
  cV s0 a0 11 (fX7_notLoaded a0 s0) (qI (fun v1 s2 =>
  if v1 = 0 then (
    fX7_widestGap_13 FU a0 0 1 s2)
  else (
    some (.inl (some (.int 0)), s2))))
set_option maxHeartbeats 4000000 in
theorem oX7_widestGap_39 {Γ : CX} (C : OKC Γ cX7_widestGap RX7 (some (.int))) (T : ∀ z ∈ (cx_c Γ).exceptionTable.toList, False) (hn : cx_nL Γ = 3) (hR : cx_fr Γ = 6 ∧ cx_lo Γ = 168) (hin : (cx_meth Γ).name = yX7_widestGap.name) {r13 : Nat → Int32 → Int32 → AS → Option AR} (h13 : ∀ (a0 : Nat) (x1 : Int32) (x2 : Int32) (s0 : AS), OK Γ 13 [(0, .ref a0), (1, .int x1), (2, .int x2)] [] (r13 a0 x1 x2 s0) s0) : ∀ (a0 : Nat) (x2 : Int32) (t0 : Int32) (s0 : AS), OK Γ 39 [(0, .ref a0), (2, .int x2)] [.int t0] (fX7_widestGap_39 r13 a0 x2 t0 s0) s0 := by
  intro a0 x2 t0 s0
  unfold fX7_widestGap_39
  refine ok_istore_n C (i := 1) [(1, .int t0), (0, .ref a0), (2, .int x2)] dX7_widestGap_39 rfl (by rw [hn]; decide) rfl ?_
  refine ok_iincL C 2 (c := 1) (fun v1 => [(2, .int v1), (1, .int t0), (0, .ref a0)]) dX7_widestGap_40 rfl rfl (by rw [hn]; decide) (fun _ => rfl) (fun v1 => ?_)
  refine ok_goto C 13 dX7_widestGap_43 (by decide) ?_
  refine OK.sub (lv' := [(0, .ref a0), (1, .int t0), (2, .int v1)]) [2, 1, 0] rfl ?_
  exact h13 a0 t0 v1 s0
set_option maxHeartbeats 4000000 in
theorem oX7_widestGap_13 {Γ : CX} (C : OKC Γ cX7_widestGap RX7 (some (.int))) (T : ∀ z ∈ (cx_c Γ).exceptionTable.toList, False) (hn : cx_nL Γ = 3) (hR : cx_fr Γ = 6 ∧ cx_lo Γ = 168) (hin : (cx_meth Γ).name = yX7_widestGap.name) : ∀ (n : Nat) (a0 : Nat) (x1 : Int32) (x2 : Int32) (s0 : AS), OK Γ 13 [(0, .ref a0), (1, .int x1), (2, .int x2)] [] (fX7_widestGap_13 n a0 x1 x2 s0) s0 := by
  intro n
  induction n with
  | zero => intro _ _ _ s0; exact OK.none
  | succ n ih =>
    intro a0 x1 x2 s0
    rw [fX7_widestGap_13]
    refine ok_iload_n C 2 dX7_widestGap_13 rfl ?_
    refine ok_aload_n C 0 dX7_widestGap_14 rfl ?_
    refine ok_getI C frX7_154_11 dX7_widestGap_15 (fun v1 => ?_)
    refine ok_icmp_ge C 46 dX7_widestGap_18 (by decide) ?_ ?_
    · refine ok_iload_n C 1 dX7_widestGap_46 rfl ?_
      exact ok_ireturn C dX7_widestGap_47
    · refine ok_aload_n C 0 dX7_widestGap_21 rfl ?_
      refine ok_iload_n C 2 dX7_widestGap_22 rfl ?_
      refine ok_callV C T [.int x2] (F := fX7_gap a0 x2) (ctX7_gap (C.2.2.2.2.2.2.2.2.1) a0 x2) vlX7_192 viX7_gap rfl rfl (by decide) rfl (by rw [hR.1, hR.2]; decide) (Nat.le_of_ble_eq_true rfl) dX7_widestGap_23 (ok_qI fun v2 s3 => ?_)
      refine ok_aload_n C 0 dX7_widestGap_26 rfl ?_
      refine ok_iload_n C 1 dX7_widestGap_27 rfl ?_
      refine ok_callV C T [.int x1] (F := fX7_gap a0 x1) (ctX7_gap (C.2.2.2.2.2.2.2.2.1) a0 x1) vlX7_192 viX7_gap rfl rfl (by decide) rfl (by rw [hR.1, hR.2]; decide) (Nat.le_of_ble_eq_true rfl) dX7_widestGap_28 (ok_qI fun v4 s5 => ?_)
      refine ok_icmp_le C 38 dX7_widestGap_31 (by decide) ?_ ?_
      · refine ok_iload_n C 1 dX7_widestGap_38 rfl ?_
        refine OK.sub (lv' := [(0, .ref a0), (2, .int x2)]) [0, 2] rfl ?_
        exact oX7_widestGap_39 C T hn hR hin ih a0 x2 x1 s5
      · refine ok_iload_n C 2 dX7_widestGap_34 rfl ?_
        refine ok_goto C 39 dX7_widestGap_35 (by decide) ?_
        refine OK.sub (lv' := [(0, .ref a0), (2, .int x2)]) [0, 2] rfl ?_
        exact oX7_widestGap_39 C T hn hR hin ih a0 x2 x2 s5
set_option maxHeartbeats 4000000 in
theorem oX7_widestGap {Γ : CX} (C : OKC Γ cX7_widestGap RX7 (some (.int))) (T : ∀ z ∈ (cx_c Γ).exceptionTable.toList, False) (hn : cx_nL Γ = 3) (hR : cx_fr Γ = 6 ∧ cx_lo Γ = 168) (hin : (cx_meth Γ).name = yX7_widestGap.name) : ∀ (a0 : Nat) (s0 : AS), OK Γ 0 [(0, .ref a0)] [] (fX7_widestGap a0 s0) s0 := by
  intro a0 s0
  unfold fX7_widestGap
  refine ok_aload_n C 0 dX7_widestGap_0 rfl ?_
  refine ok_callV C T [] (F := fX7_notLoaded a0) (ctX7_notLoaded (C.2.2.2.2.2.2.2.2.1) a0) vlX7_320 viX7_notLoaded rfl rfl (by decide) rfl (by rw [hR.1, hR.2]; decide) (Nat.le_of_ble_eq_true rfl) dX7_widestGap_1 (ok_qI fun v1 s2 => ?_)
  refine ok_if_eq C 9 dX7_widestGap_4 (by decide) ?_ ?_
  · refine ok_iconst C (v := 0) dX7_widestGap_9 (by decide) ?_
    refine ok_istore_n C (i := 1) [(1, .int 0), (0, .ref a0)] dX7_widestGap_10 rfl (by rw [hn]; decide) rfl ?_
    refine ok_iconst C (v := 1) dX7_widestGap_11 (by decide) ?_
    refine ok_istore_n C (i := 2) [(2, .int 1), (1, .int 0), (0, .ref a0)] dX7_widestGap_12 rfl (by rw [hn]; decide) rfl ?_
    refine OK.sub (lv' := [(0, .ref a0), (1, .int 0), (2, .int 1)]) [2, 1, 0] rfl ?_
    exact oX7_widestGap_13 C T hn hR hin FU a0 0 1 s2
  · refine ok_iconst C (v := 0) dX7_widestGap_7 (by decide) ?_
    exact ok_ireturn C dX7_widestGap_8
theorem ctX7_widestGap {l : Launch} (hl : l.stackTraces = false) {D : va_G} {dA : Nat → ClassId} {B0 : Nat} (a0 : Nat) : Ct l D dA B0 yX7_widestGap (.code yX7_widestGap cX7_widestGap 3 (some (.int)) :: ax_ALL) 6 168 [.ref a0] (fX7_widestGap a0) :=
  Ct.of hl (by decide +kernel) (Nat.le_of_ble_eq_true rfl) fun Γ C _ _ _ _ e5 e6 e7 T hin => oX7_widestGap C T e5 ⟨e6, e7⟩ hin a0 _
/-! ChaseLockerModel.loosest()I -/
def fX7_loosest_50 (r13 : Nat → Int32 → Int32 → AS → Option AR) (a0 : Nat) (x1 : Int32) (x2 : Int32) (s0 : AS) : Option AR :=
  lt (x2 + 1) (fun v1 =>
  r13 a0 x1 v1 s0)
def fX7_loosest_48 (r13 : Nat → Int32 → Int32 → AS → Option AR) (a0 : Nat) (x2 : Int32) (s0 : AS) : Option AR :=
  fX7_loosest_50 r13 a0 x2 x2 s0
def fX7_loosest_13  : Nat → Nat → Int32 → Int32 → AS → Option AR
  | 0, _, _, _, _ => none
  | n + 1, a0, x1, x2, s0 =>
    gI s0 a0 11 3 (fun v1 =>
    if v1 ≤ x2 then (
      some (.inl (some (.int x1)), s0))
    else (
      cV s0 a0 11 (fX7_of a0 x2 0 s0) (qI (fun v2 s3 =>
      if v2 ≤ 0 then (
        fX7_loosest_50 (fX7_loosest_13 n) a0 x1 x2 s3)
      else (
        if x1 = (-1 : Int32) then (
          fX7_loosest_48 (fX7_loosest_13 n) a0 x2 s3)
        else (
          cV s3 a0 11 (fX7_looseness a0 x2 s3) (qI (fun v4 s5 =>
          cV s5 a0 11 (fX7_looseness a0 x1 s5) (qI (fun v6 s7 =>
          if v4 ≤ v6 then (
            fX7_loosest_50 (fX7_loosest_13 n) a0 x1 x2 s7)
          else (
            fX7_loosest_48 (fX7_loosest_13 n) a0 x2 s7)))))))))))
def fX7_loosest (a0 : Nat) (s0 : AS) : Option AR :=
  cV s0 a0 11 (fX7_notLoaded a0 s0) (qI (fun v1 s2 =>
  if v1 = 0 then (
    lt ((-1)) (fun v3 =>
    fX7_loosest_13 FU a0 v3 0 s2))
  else (
    some (.inl (some (.int 0)), s2))))
set_option maxHeartbeats 4000000 in
theorem oX7_loosest_50 {Γ : CX} (C : OKC Γ cX7_loosest RX7 (some (.int))) (T : ∀ z ∈ (cx_c Γ).exceptionTable.toList, False) (hn : cx_nL Γ = 3) (hR : cx_fr Γ = 7 ∧ cx_lo Γ = 189) (hin : (cx_meth Γ).name = yX7_loosest.name) {r13 : Nat → Int32 → Int32 → AS → Option AR} (h13 : ∀ (a0 : Nat) (x1 : Int32) (x2 : Int32) (s0 : AS), OK Γ 13 [(0, .ref a0), (1, .int x1), (2, .int x2)] [] (r13 a0 x1 x2 s0) s0) : ∀ (a0 : Nat) (x1 : Int32) (x2 : Int32) (s0 : AS), OK Γ 50 [(0, .ref a0), (1, .int x1), (2, .int x2)] [] (fX7_loosest_50 r13 a0 x1 x2 s0) s0 := by
  intro a0 x1 x2 s0
  unfold fX7_loosest_50
  refine ok_iincL C 2 (c := 1) (fun v1 => [(2, .int v1), (0, .ref a0), (1, .int x1)]) dX7_loosest_50 rfl rfl (by rw [hn]; decide) (fun _ => rfl) (fun v1 => ?_)
  refine ok_goto C 13 dX7_loosest_53 (by decide) ?_
  refine OK.sub (lv' := [(0, .ref a0), (1, .int x1), (2, .int v1)]) [1, 2, 0] rfl ?_
  exact h13 a0 x1 v1 s0
set_option maxHeartbeats 4000000 in
theorem oX7_loosest_48 {Γ : CX} (C : OKC Γ cX7_loosest RX7 (some (.int))) (T : ∀ z ∈ (cx_c Γ).exceptionTable.toList, False) (hn : cx_nL Γ = 3) (hR : cx_fr Γ = 7 ∧ cx_lo Γ = 189) (hin : (cx_meth Γ).name = yX7_loosest.name) {r13 : Nat → Int32 → Int32 → AS → Option AR} (h13 : ∀ (a0 : Nat) (x1 : Int32) (x2 : Int32) (s0 : AS), OK Γ 13 [(0, .ref a0), (1, .int x1), (2, .int x2)] [] (r13 a0 x1 x2 s0) s0) : ∀ (a0 : Nat) (x2 : Int32) (s0 : AS), OK Γ 48 [(0, .ref a0), (2, .int x2)] [] (fX7_loosest_48 r13 a0 x2 s0) s0 := by
  intro a0 x2 s0
  unfold fX7_loosest_48
  refine ok_iload_n C 1 dX7_loosest_48 rfl ?_
  refine ok_istore_n C (i := 1) [(1, .int x2), (0, .ref a0), (2, .int x2)] dX7_loosest_49 rfl (by rw [hn]; decide) rfl ?_
  refine OK.sub (lv' := [(0, .ref a0), (1, .int x2), (2, .int x2)]) [1, 0, 2] rfl ?_
  exact oX7_loosest_50 C T hn hR hin h13 a0 x2 x2 s0
set_option maxHeartbeats 4000000 in
theorem oX7_loosest_13 {Γ : CX} (C : OKC Γ cX7_loosest RX7 (some (.int))) (T : ∀ z ∈ (cx_c Γ).exceptionTable.toList, False) (hn : cx_nL Γ = 3) (hR : cx_fr Γ = 7 ∧ cx_lo Γ = 189) (hin : (cx_meth Γ).name = yX7_loosest.name) : ∀ (n : Nat) (a0 : Nat) (x1 : Int32) (x2 : Int32) (s0 : AS), OK Γ 13 [(0, .ref a0), (1, .int x1), (2, .int x2)] [] (fX7_loosest_13 n a0 x1 x2 s0) s0 := by
  intro n
  induction n with
  | zero => intro _ _ _ s0; exact OK.none
  | succ n ih =>
    intro a0 x1 x2 s0
    rw [fX7_loosest_13]
    refine ok_iload_n C 2 dX7_loosest_13 rfl ?_
    refine ok_aload_n C 0 dX7_loosest_14 rfl ?_
    refine ok_getI C frX7_154_11 dX7_loosest_15 (fun v1 => ?_)
    refine ok_icmp_ge C 56 dX7_loosest_18 (by decide) ?_ ?_
    · refine ok_iload_n C 1 dX7_loosest_56 rfl ?_
      exact ok_ireturn C dX7_loosest_57
    · refine ok_aload_n C 0 dX7_loosest_21 rfl ?_
      refine ok_iload_n C 2 dX7_loosest_22 rfl ?_
      refine ok_iconst C (v := 0) dX7_loosest_23 (by decide) ?_
      refine ok_callV C T [.int x2, .int 0] (F := fX7_of a0 x2 0) (ctX7_of (C.2.2.2.2.2.2.2.2.1) a0 x2 0) vlX7_189 viX7_of rfl rfl (by decide) rfl (by rw [hR.1, hR.2]; decide) (Nat.le_of_ble_eq_true rfl) dX7_loosest_24 (ok_qI fun v2 s3 => ?_)
      refine ok_if_le C 50 dX7_loosest_27 (by decide) ?_ ?_
      · exact oX7_loosest_50 C T hn hR hin ih a0 x1 x2 s3
      · refine ok_iload_n C 1 dX7_loosest_30 rfl ?_
        refine ok_iconst C (v := (-1)) dX7_loosest_31 (by decide) ?_
        refine ok_icmp_eq C 48 dX7_loosest_32 (by decide) ?_ ?_
        · refine OK.sub (lv' := [(0, .ref a0), (2, .int x2)]) [0, 2] rfl ?_
          exact oX7_loosest_48 C T hn hR hin ih a0 x2 s3
        · refine ok_aload_n C 0 dX7_loosest_35 rfl ?_
          refine ok_iload_n C 2 dX7_loosest_36 rfl ?_
          refine ok_callV C T [.int x2] (F := fX7_looseness a0 x2) (ctX7_looseness (C.2.2.2.2.2.2.2.2.1) a0 x2) vlX7_257 viX7_looseness rfl rfl (by decide) rfl (by rw [hR.1, hR.2]; decide) (Nat.le_of_ble_eq_true rfl) dX7_loosest_37 (ok_qI fun v4 s5 => ?_)
          refine ok_aload_n C 0 dX7_loosest_40 rfl ?_
          refine ok_iload_n C 1 dX7_loosest_41 rfl ?_
          refine ok_callV C T [.int x1] (F := fX7_looseness a0 x1) (ctX7_looseness (C.2.2.2.2.2.2.2.2.1) a0 x1) vlX7_257 viX7_looseness rfl rfl (by decide) rfl (by rw [hR.1, hR.2]; decide) (Nat.le_of_ble_eq_true rfl) dX7_loosest_42 (ok_qI fun v6 s7 => ?_)
          refine ok_icmp_le C 50 dX7_loosest_45 (by decide) ?_ ?_
          · exact oX7_loosest_50 C T hn hR hin ih a0 x1 x2 s7
          · refine OK.sub (lv' := [(0, .ref a0), (2, .int x2)]) [0, 2] rfl ?_
            exact oX7_loosest_48 C T hn hR hin ih a0 x2 s7
set_option maxHeartbeats 4000000 in
theorem oX7_loosest {Γ : CX} (C : OKC Γ cX7_loosest RX7 (some (.int))) (T : ∀ z ∈ (cx_c Γ).exceptionTable.toList, False) (hn : cx_nL Γ = 3) (hR : cx_fr Γ = 7 ∧ cx_lo Γ = 189) (hin : (cx_meth Γ).name = yX7_loosest.name) : ∀ (a0 : Nat) (s0 : AS), OK Γ 0 [(0, .ref a0)] [] (fX7_loosest a0 s0) s0 := by
  intro a0 s0
  unfold fX7_loosest
  refine ok_aload_n C 0 dX7_loosest_0 rfl ?_
  refine ok_callV C T [] (F := fX7_notLoaded a0) (ctX7_notLoaded (C.2.2.2.2.2.2.2.2.1) a0) vlX7_320 viX7_notLoaded rfl rfl (by decide) rfl (by rw [hR.1, hR.2]; decide) (Nat.le_of_ble_eq_true rfl) dX7_loosest_1 (ok_qI fun v1 s2 => ?_)
  refine ok_if_eq C 9 dX7_loosest_4 (by decide) ?_ ?_
  · refine ok_iconst C (v := (-1)) dX7_loosest_9 (by decide) ?_
    refine ok_lt (fun v3 => ?_)
    refine ok_istore_n C (i := 1) [(1, .int v3), (0, .ref a0)] dX7_loosest_10 rfl (by rw [hn]; decide) rfl ?_
    refine ok_iconst C (v := 0) dX7_loosest_11 (by decide) ?_
    refine ok_istore_n C (i := 2) [(2, .int 0), (1, .int v3), (0, .ref a0)] dX7_loosest_12 rfl (by rw [hn]; decide) rfl ?_
    refine OK.sub (lv' := [(0, .ref a0), (1, .int v3), (2, .int 0)]) [2, 1, 0] rfl ?_
    exact oX7_loosest_13 C T hn hR hin FU a0 v3 0 s2
  · refine ok_iconst C (v := 0) dX7_loosest_7 (by decide) ?_
    exact ok_ireturn C dX7_loosest_8
theorem ctX7_loosest {l : Launch} (hl : l.stackTraces = false) {D : va_G} {dA : Nat → ClassId} {B0 : Nat} (a0 : Nat) : Ct l D dA B0 yX7_loosest (.code yX7_loosest cX7_loosest 3 (some (.int)) :: ax_ALL) 7 189 [.ref a0] (fX7_loosest a0) :=
  Ct.of hl (by decide +kernel) (Nat.le_of_ble_eq_true rfl) fun Γ C _ _ _ _ e5 e6 e7 T hin => oX7_loosest C T e5 ⟨e6, e7⟩ hin a0 _
/-! ChaseLockerModel.longestLeft()I -/
def fX7_longestLeft_49 (r13 : Nat → Int32 → Int32 → AS → Option AR) (a0 : Nat) (x1 : Int32) (x2 : Int32) (s0 : AS) : Option AR :=
  lt (x2 + 1) (fun v1 =>
  r13 a0 x1 v1 s0)
def fX7_longestLeft_47 (r13 : Nat → Int32 → Int32 → AS → Option AR) (a0 : Nat) (x2 : Int32) (s0 : AS) : Option AR :=
  fX7_longestLeft_49 r13 a0 x2 x2 s0
def fX7_longestLeft_13  : Nat → Nat → Int32 → Int32 → AS → Option AR
  | 0, _, _, _, _ => none
  | n + 1, a0, x1, x2, s0 =>
    gI s0 a0 11 9 (fun v1 =>
    if v1 ≤ x2 then (
      some (.inl (some (.int x1)), s0))
    else (
      gR s0 a0 11 12 (fun q2 =>
      aI s0 q2 100 (6 + x2) (fun v3 =>
      if v3 ≤ 0 then (
        fX7_longestLeft_49 (fX7_longestLeft_13 n) a0 x1 x2 s0)
      else (
        if x1 = (-1 : Int32) then (
          fX7_longestLeft_47 (fX7_longestLeft_13 n) a0 x2 s0)
        else (
          cV s0 a0 11 (fX7_isAhead a0 x2 x1 s0) (qI (fun v4 s5 =>
          if v4 = 0 then (
            fX7_longestLeft_49 (fX7_longestLeft_13 n) a0 x1 x2 s5)
          else (
            fX7_longestLeft_47 (fX7_longestLeft_13 n) a0 x2 s5)))))))))
def fX7_longestLeft (a0 : Nat) (s0 : AS) : Option AR :=
  cV s0 a0 11 (fX7_notLoaded a0 s0) (qI (fun v1 s2 =>
  if v1 = 0 then (
    lt ((-1)) (fun v3 =>
    fX7_longestLeft_13 FU a0 v3 0 s2))
  else (
    some (.inl (some (.int 0)), s2))))
set_option maxHeartbeats 4000000 in
theorem oX7_longestLeft_49 {Γ : CX} (C : OKC Γ cX7_longestLeft RX7 (some (.int))) (T : ∀ z ∈ (cx_c Γ).exceptionTable.toList, False) (hn : cx_nL Γ = 3) (hR : cx_fr Γ = 3 ∧ cx_lo Γ = 102) (hin : (cx_meth Γ).name = yX7_longestLeft.name) {r13 : Nat → Int32 → Int32 → AS → Option AR} (h13 : ∀ (a0 : Nat) (x1 : Int32) (x2 : Int32) (s0 : AS), OK Γ 13 [(0, .ref a0), (1, .int x1), (2, .int x2)] [] (r13 a0 x1 x2 s0) s0) : ∀ (a0 : Nat) (x1 : Int32) (x2 : Int32) (s0 : AS), OK Γ 49 [(0, .ref a0), (1, .int x1), (2, .int x2)] [] (fX7_longestLeft_49 r13 a0 x1 x2 s0) s0 := by
  intro a0 x1 x2 s0
  unfold fX7_longestLeft_49
  refine ok_iincL C 2 (c := 1) (fun v1 => [(2, .int v1), (0, .ref a0), (1, .int x1)]) dX7_longestLeft_49 rfl rfl (by rw [hn]; decide) (fun _ => rfl) (fun v1 => ?_)
  refine ok_goto C 13 dX7_longestLeft_52 (by decide) ?_
  refine OK.sub (lv' := [(0, .ref a0), (1, .int x1), (2, .int v1)]) [1, 2, 0] rfl ?_
  exact h13 a0 x1 v1 s0
set_option maxHeartbeats 4000000 in
theorem oX7_longestLeft_47 {Γ : CX} (C : OKC Γ cX7_longestLeft RX7 (some (.int))) (T : ∀ z ∈ (cx_c Γ).exceptionTable.toList, False) (hn : cx_nL Γ = 3) (hR : cx_fr Γ = 3 ∧ cx_lo Γ = 102) (hin : (cx_meth Γ).name = yX7_longestLeft.name) {r13 : Nat → Int32 → Int32 → AS → Option AR} (h13 : ∀ (a0 : Nat) (x1 : Int32) (x2 : Int32) (s0 : AS), OK Γ 13 [(0, .ref a0), (1, .int x1), (2, .int x2)] [] (r13 a0 x1 x2 s0) s0) : ∀ (a0 : Nat) (x2 : Int32) (s0 : AS), OK Γ 47 [(0, .ref a0), (2, .int x2)] [] (fX7_longestLeft_47 r13 a0 x2 s0) s0 := by
  intro a0 x2 s0
  unfold fX7_longestLeft_47
  refine ok_iload_n C 1 dX7_longestLeft_47 rfl ?_
  refine ok_istore_n C (i := 1) [(1, .int x2), (0, .ref a0), (2, .int x2)] dX7_longestLeft_48 rfl (by rw [hn]; decide) rfl ?_
  refine OK.sub (lv' := [(0, .ref a0), (1, .int x2), (2, .int x2)]) [1, 0, 2] rfl ?_
  exact oX7_longestLeft_49 C T hn hR hin h13 a0 x2 x2 s0
set_option maxHeartbeats 4000000 in
theorem oX7_longestLeft_13 {Γ : CX} (C : OKC Γ cX7_longestLeft RX7 (some (.int))) (T : ∀ z ∈ (cx_c Γ).exceptionTable.toList, False) (hn : cx_nL Γ = 3) (hR : cx_fr Γ = 3 ∧ cx_lo Γ = 102) (hin : (cx_meth Γ).name = yX7_longestLeft.name) : ∀ (n : Nat) (a0 : Nat) (x1 : Int32) (x2 : Int32) (s0 : AS), OK Γ 13 [(0, .ref a0), (1, .int x1), (2, .int x2)] [] (fX7_longestLeft_13 n a0 x1 x2 s0) s0 := by
  intro n
  induction n with
  | zero => intro _ _ _ s0; exact OK.none
  | succ n ih =>
    intro a0 x1 x2 s0
    rw [fX7_longestLeft_13]
    refine ok_iload_n C 2 dX7_longestLeft_13 rfl ?_
    refine ok_aload_n C 0 dX7_longestLeft_14 rfl ?_
    refine ok_getI C frX7_172_11 dX7_longestLeft_15 (fun v1 => ?_)
    refine ok_icmp_ge C 55 dX7_longestLeft_18 (by decide) ?_ ?_
    · refine ok_iload_n C 1 dX7_longestLeft_55 rfl ?_
      exact ok_ireturn C dX7_longestLeft_56
    · refine ok_aload_n C 0 dX7_longestLeft_21 rfl ?_
      refine ok_getR C frX7_17_11 dX7_longestLeft_22 (fun q2 => ?_)
      refine ok_bipush C (v := 6) dX7_longestLeft_25 (by decide) ?_
      refine ok_iload_n C 2 dX7_longestLeft_27 rfl ?_
      refine ok_iadd C dX7_longestLeft_28 ?_
      refine ok_iald C dX7_longestLeft_29 (fun v3 => ?_)
      refine ok_if_le C 49 dX7_longestLeft_30 (by decide) ?_ ?_
      · exact oX7_longestLeft_49 C T hn hR hin ih a0 x1 x2 s0
      · refine ok_iload_n C 1 dX7_longestLeft_33 rfl ?_
        refine ok_iconst C (v := (-1)) dX7_longestLeft_34 (by decide) ?_
        refine ok_icmp_eq C 47 dX7_longestLeft_35 (by decide) ?_ ?_
        · refine OK.sub (lv' := [(0, .ref a0), (2, .int x2)]) [0, 2] rfl ?_
          exact oX7_longestLeft_47 C T hn hR hin ih a0 x2 s0
        · refine ok_aload_n C 0 dX7_longestLeft_38 rfl ?_
          refine ok_iload_n C 2 dX7_longestLeft_39 rfl ?_
          refine ok_iload_n C 1 dX7_longestLeft_40 rfl ?_
          refine ok_callV C T [.int x2, .int x1] (F := fX7_isAhead a0 x2 x1) (ctX7_isAhead (C.2.2.2.2.2.2.2.2.1) a0 x2 x1) vlX7_273 viX7_isAhead rfl rfl (by decide) rfl (by rw [hR.1, hR.2]; decide) (Nat.le_of_ble_eq_true rfl) dX7_longestLeft_41 (ok_qI fun v4 s5 => ?_)
          refine ok_if_eq C 49 dX7_longestLeft_44 (by decide) ?_ ?_
          · exact oX7_longestLeft_49 C T hn hR hin ih a0 x1 x2 s5
          · refine OK.sub (lv' := [(0, .ref a0), (2, .int x2)]) [0, 2] rfl ?_
            exact oX7_longestLeft_47 C T hn hR hin ih a0 x2 s5
set_option maxHeartbeats 4000000 in
theorem oX7_longestLeft {Γ : CX} (C : OKC Γ cX7_longestLeft RX7 (some (.int))) (T : ∀ z ∈ (cx_c Γ).exceptionTable.toList, False) (hn : cx_nL Γ = 3) (hR : cx_fr Γ = 3 ∧ cx_lo Γ = 102) (hin : (cx_meth Γ).name = yX7_longestLeft.name) : ∀ (a0 : Nat) (s0 : AS), OK Γ 0 [(0, .ref a0)] [] (fX7_longestLeft a0 s0) s0 := by
  intro a0 s0
  unfold fX7_longestLeft
  refine ok_aload_n C 0 dX7_longestLeft_0 rfl ?_
  refine ok_callV C T [] (F := fX7_notLoaded a0) (ctX7_notLoaded (C.2.2.2.2.2.2.2.2.1) a0) vlX7_320 viX7_notLoaded rfl rfl (by decide) rfl (by rw [hR.1, hR.2]; decide) (Nat.le_of_ble_eq_true rfl) dX7_longestLeft_1 (ok_qI fun v1 s2 => ?_)
  refine ok_if_eq C 9 dX7_longestLeft_4 (by decide) ?_ ?_
  · refine ok_iconst C (v := (-1)) dX7_longestLeft_9 (by decide) ?_
    refine ok_lt (fun v3 => ?_)
    refine ok_istore_n C (i := 1) [(1, .int v3), (0, .ref a0)] dX7_longestLeft_10 rfl (by rw [hn]; decide) rfl ?_
    refine ok_iconst C (v := 0) dX7_longestLeft_11 (by decide) ?_
    refine ok_istore_n C (i := 2) [(2, .int 0), (1, .int v3), (0, .ref a0)] dX7_longestLeft_12 rfl (by rw [hn]; decide) rfl ?_
    refine OK.sub (lv' := [(0, .ref a0), (1, .int v3), (2, .int 0)]) [2, 1, 0] rfl ?_
    exact oX7_longestLeft_13 C T hn hR hin FU a0 v3 0 s2
  · refine ok_iconst C (v := 0) dX7_longestLeft_7 (by decide) ?_
    exact ok_ireturn C dX7_longestLeft_8
theorem ctX7_longestLeft {l : Launch} (hl : l.stackTraces = false) {D : va_G} {dA : Nat → ClassId} {B0 : Nat} (a0 : Nat) : Ct l D dA B0 yX7_longestLeft (.code yX7_longestLeft cX7_longestLeft 3 (some (.int)) :: ax_ALL) 3 102 [.ref a0] (fX7_longestLeft a0) :=
  Ct.of hl (by decide +kernel) (Nat.le_of_ble_eq_true rfl) fun Γ C _ _ _ _ e5 e6 e7 T hin => oX7_longestLeft C T e5 ⟨e6, e7⟩ hin a0 _
/-! ChaseLockerModel.lengthLeft()I -/
def fX7_lengthLeft (a0 : Nat) (s0 : AS) : Option AR :=
  cV s0 a0 11 (fX7_notLoaded a0 s0) (qI (fun v1 s2 =>
  if v1 = 0 then (
    cV s2 a0 11 (fX7_leftAll a0 1 s2) (qI (fun v3 s4 =>
    some (.inl (some (.int v3)), s4))))
  else (
    some (.inl (some (.int 0)), s2))))
set_option maxHeartbeats 4000000 in
theorem oX7_lengthLeft {Γ : CX} (C : OKC Γ cX7_lengthLeft RX7 (some (.int))) (T : ∀ z ∈ (cx_c Γ).exceptionTable.toList, False) (hn : cx_nL Γ = 1) (hR : cx_fr Γ = 3 ∧ cx_lo Γ = 102) (hin : (cx_meth Γ).name = yX7_lengthLeft.name) : ∀ (a0 : Nat) (s0 : AS), OK Γ 0 [(0, .ref a0)] [] (fX7_lengthLeft a0 s0) s0 := by
  intro a0 s0
  unfold fX7_lengthLeft
  refine ok_aload_n C 0 dX7_lengthLeft_0 rfl ?_
  refine ok_callV C T [] (F := fX7_notLoaded a0) (ctX7_notLoaded (C.2.2.2.2.2.2.2.2.1) a0) vlX7_320 viX7_notLoaded rfl rfl (by decide) rfl (by rw [hR.1, hR.2]; decide) (Nat.le_of_ble_eq_true rfl) dX7_lengthLeft_1 (ok_qI fun v1 s2 => ?_)
  refine ok_if_eq C 11 dX7_lengthLeft_4 (by decide) ?_ ?_
  · refine ok_aload_n C 0 dX7_lengthLeft_11 rfl ?_
    refine ok_iconst C (v := 1) dX7_lengthLeft_12 (by decide) ?_
    refine ok_callV C T [.int 1] (F := fX7_leftAll a0 1) (ctX7_leftAll (C.2.2.2.2.2.2.2.2.1) a0 1) vlX7_329 viX7_leftAll rfl rfl (by decide) rfl (by rw [hR.1, hR.2]; decide) (Nat.le_of_ble_eq_true rfl) dX7_lengthLeft_13 (ok_qI fun v3 s4 => ?_)
    exact ok_ireturn C dX7_lengthLeft_16
  · refine ok_iconst C (v := 0) dX7_lengthLeft_7 (by decide) ?_
    refine ok_goto C 16 dX7_lengthLeft_8 (by decide) ?_
    exact ok_ireturn C dX7_lengthLeft_16
theorem ctX7_lengthLeft {l : Launch} (hl : l.stackTraces = false) {D : va_G} {dA : Nat → ClassId} {B0 : Nat} (a0 : Nat) : Ct l D dA B0 yX7_lengthLeft (.code yX7_lengthLeft cX7_lengthLeft 1 (some (.int)) :: ax_ALL) 3 102 [.ref a0] (fX7_lengthLeft a0) :=
  Ct.of hl (by decide +kernel) (Nat.le_of_ble_eq_true rfl) fun Γ C _ _ _ _ e5 e6 e7 T hin => oX7_lengthLeft C T e5 ⟨e6, e7⟩ hin a0 _
/-! ChaseLockerModel.meanGap()D -/
def fX7_meanGap_13  : Nat → Nat → Int32 → Int32 → AS → Option AR
  | 0, _, _, _, _ => none
  | n + 1, a0, x1, x2, s0 =>
    gI s0 a0 11 3 (fun v1 =>
    if v1 ≤ x2 then (
      gI s0 a0 11 3 (fun v2 =>
      if FP.ddiv (FP.i2d x1) (FP.i2d v2) &&& 0x7fffffffffffffff ≤ 0x7ff0000000000000 then (
      some (.inl (some (.double (FP.ddiv (FP.i2d x1) (FP.i2d v2)))), s0)) else none))
    else (
      cV s0 a0 11 (fX7_gap a0 x2 s0) (qI (fun v3 s4 =>
      lt (x1 + v3) (fun v5 =>
      lt (x2 + 1) (fun v6 =>
      fX7_meanGap_13 n a0 v5 v6 s4))))))
def fX7_meanGap (a0 : Nat) (s0 : AS) : Option AR :=
  cV s0 a0 11 (fX7_notLoaded a0 s0) (qI (fun v1 s2 =>
  if v1 = 0 then (
    fX7_meanGap_13 FU a0 0 0 s2)
  else (
    some (.inl (some (.double 0)), s2))))
set_option maxHeartbeats 4000000 in
theorem oX7_meanGap_13 {Γ : CX} (C : OKC Γ cX7_meanGap RX7 (some (.double))) (T : ∀ z ∈ (cx_c Γ).exceptionTable.toList, False) (hn : cx_nL Γ = 3) (hR : cx_fr Γ = 6 ∧ cx_lo Γ = 168) (hin : (cx_meth Γ).name = yX7_meanGap.name) : ∀ (n : Nat) (a0 : Nat) (x1 : Int32) (x2 : Int32) (s0 : AS), OK Γ 13 [(0, .ref a0), (1, .int x1), (2, .int x2)] [] (fX7_meanGap_13 n a0 x1 x2 s0) s0 := by
  intro n
  induction n with
  | zero => intro _ _ _ s0; exact OK.none
  | succ n ih =>
    intro a0 x1 x2 s0
    rw [fX7_meanGap_13]
    refine ok_iload_n C 2 dX7_meanGap_13 rfl ?_
    refine ok_aload_n C 0 dX7_meanGap_14 rfl ?_
    refine ok_getI C frX7_154_11 dX7_meanGap_15 (fun v1 => ?_)
    refine ok_icmp_ge C 35 dX7_meanGap_18 (by decide) ?_ ?_
    · refine ok_iload_n C 1 dX7_meanGap_35 rfl ?_
      refine ok_i2d C dX7_meanGap_36 ?_
      refine ok_aload_n C 0 dX7_meanGap_37 rfl ?_
      refine ok_getI C frX7_154_11 dX7_meanGap_38 (fun v2 => ?_)
      refine ok_i2d C dX7_meanGap_41 ?_
      refine ok_ddiv C dX7_meanGap_42 ?_
      exact ok_dreturn C dX7_meanGap_43
    · refine ok_iload_n C 1 dX7_meanGap_21 rfl ?_
      refine ok_aload_n C 0 dX7_meanGap_22 rfl ?_
      refine ok_iload_n C 2 dX7_meanGap_23 rfl ?_
      refine ok_callV C T [.int x2] (F := fX7_gap a0 x2) (ctX7_gap (C.2.2.2.2.2.2.2.2.1) a0 x2) vlX7_192 viX7_gap rfl rfl (by decide) rfl (by rw [hR.1, hR.2]; decide) (Nat.le_of_ble_eq_true rfl) dX7_meanGap_24 (ok_qI fun v3 s4 => ?_)
      refine ok_iadd C dX7_meanGap_27 ?_
      refine ok_lt (fun v5 => ?_)
      refine ok_istore_n C (i := 1) [(1, .int v5), (0, .ref a0), (2, .int x2)] dX7_meanGap_28 rfl (by rw [hn]; decide) rfl ?_
      refine ok_iincL C 2 (c := 1) (fun v6 => [(2, .int v6), (1, .int v5), (0, .ref a0)]) dX7_meanGap_29 rfl rfl (by rw [hn]; decide) (fun _ => rfl) (fun v6 => ?_)
      refine ok_goto C 13 dX7_meanGap_32 (by decide) ?_
      refine OK.sub (lv' := [(0, .ref a0), (1, .int v5), (2, .int v6)]) [2, 1, 0] rfl ?_
      exact ih a0 v5 v6 s4
set_option maxHeartbeats 4000000 in
theorem oX7_meanGap {Γ : CX} (C : OKC Γ cX7_meanGap RX7 (some (.double))) (T : ∀ z ∈ (cx_c Γ).exceptionTable.toList, False) (hn : cx_nL Γ = 3) (hR : cx_fr Γ = 6 ∧ cx_lo Γ = 168) (hin : (cx_meth Γ).name = yX7_meanGap.name) : ∀ (a0 : Nat) (s0 : AS), OK Γ 0 [(0, .ref a0)] [] (fX7_meanGap a0 s0) s0 := by
  intro a0 s0
  unfold fX7_meanGap
  refine ok_aload_n C 0 dX7_meanGap_0 rfl ?_
  refine ok_callV C T [] (F := fX7_notLoaded a0) (ctX7_notLoaded (C.2.2.2.2.2.2.2.2.1) a0) vlX7_320 viX7_notLoaded rfl rfl (by decide) rfl (by rw [hR.1, hR.2]; decide) (Nat.le_of_ble_eq_true rfl) dX7_meanGap_1 (ok_qI fun v1 s2 => ?_)
  refine ok_if_eq C 9 dX7_meanGap_4 (by decide) ?_ ?_
  · refine ok_iconst C (v := 0) dX7_meanGap_9 (by decide) ?_
    refine ok_istore_n C (i := 1) [(1, .int 0), (0, .ref a0)] dX7_meanGap_10 rfl (by rw [hn]; decide) rfl ?_
    refine ok_iconst C (v := 0) dX7_meanGap_11 (by decide) ?_
    refine ok_istore_n C (i := 2) [(2, .int 0), (1, .int 0), (0, .ref a0)] dX7_meanGap_12 rfl (by rw [hn]; decide) rfl ?_
    refine OK.sub (lv' := [(0, .ref a0), (1, .int 0), (2, .int 0)]) [2, 1, 0] rfl ?_
    exact oX7_meanGap_13 C T hn hR hin FU a0 0 0 s2
  · refine ok_dconst0 C dX7_meanGap_7 ?_
    exact ok_dreturn C dX7_meanGap_8
theorem ctX7_meanGap {l : Launch} (hl : l.stackTraces = false) {D : va_G} {dA : Nat → ClassId} {B0 : Nat} (a0 : Nat) : Ct l D dA B0 yX7_meanGap (.code yX7_meanGap cX7_meanGap 3 (some (.double)) :: ax_ALL) 6 168 [.ref a0] (fX7_meanGap a0) :=
  Ct.of hl (by decide +kernel) (Nat.le_of_ble_eq_true rfl) fun Γ C _ _ _ _ e5 e6 e7 T hin => oX7_meanGap C T e5 ⟨e6, e7⟩ hin a0 _
/-! ChaseLockerModel.woodShare()F -/
def fX7_woodShare_43  (a0 : Nat) (x1 : Int32) (s0 : AS) : Option AR :=
  cV s0 a0 11 (fX7_sumOver a0 1 s0) (qI (fun v1 s2 =>
  if FP.fdiv (FP.i2f x1) (FP.i2f v1) &&& 0x7fffffff ≤ 0x7f800000 then (
  some (.inl (some (.float (FP.fdiv (FP.i2f x1) (FP.i2f v1)))), s2)) else none))
def fX7_woodShare_21  : Nat → Nat → Int32 → Int32 → AS → Option AR
  | 0, _, _, _, _ => none
  | n + 1, a0, x1, x2, s0 =>
    gI s0 a0 11 3 (fun v1 =>
    if v1 ≤ x2 then (
      fX7_woodShare_43 a0 x1 s0)
    else (
      cV s0 a0 11 (fX7_woodIn a0 x2 s0) (qI (fun v2 s3 =>
      lt (x1 + v2) (fun v4 =>
      lt (x2 + 1) (fun v5 =>
      fX7_woodShare_21 n a0 v4 v5 s3))))))
def fX7_woodShare (a0 : Nat) (s0 : AS) : Option AR :=
  cV s0 a0 11 (fX7_notLoaded a0 s0) (qI (fun v1 s2 =>
  if v1 = 0 then (
    cV s2 a0 11 (fX7_sumOver a0 1 s2) (qI (fun v3 s4 =>
    if v3 = 0 then (
      some (.inl (some (.float 0)), s4))
    else (
      fX7_woodShare_21 FU a0 0 0 s4))))
  else (
    some (.inl (some (.float 0)), s2))))
set_option maxHeartbeats 4000000 in
theorem oX7_woodShare_43 {Γ : CX} (C : OKC Γ cX7_woodShare RX7 (some (.float))) (T : ∀ z ∈ (cx_c Γ).exceptionTable.toList, False) (hn : cx_nL Γ = 3) (hR : cx_fr Γ = 3 ∧ cx_lo Γ = 105) (hin : (cx_meth Γ).name = yX7_woodShare.name) : ∀ (a0 : Nat) (x1 : Int32) (s0 : AS), OK Γ 43 [(0, .ref a0), (1, .int x1)] [] (fX7_woodShare_43  a0 x1 s0) s0 := by
  intro a0 x1 s0
  unfold fX7_woodShare_43
  refine ok_iload_n C 1 dX7_woodShare_43 rfl ?_
  refine ok_i2f C dX7_woodShare_44 ?_
  refine ok_aload_n C 0 dX7_woodShare_45 rfl ?_
  refine ok_iconst C (v := 1) dX7_woodShare_46 (by decide) ?_
  refine ok_callV C T [.int 1] (F := fX7_sumOver a0 1) (ctX7_sumOver (C.2.2.2.2.2.2.2.2.1) a0 1) vlX7_323 viX7_sumOver rfl rfl (by decide) rfl (by rw [hR.1, hR.2]; decide) (Nat.le_of_ble_eq_true rfl) dX7_woodShare_47 (ok_qI fun v1 s2 => ?_)
  refine ok_i2f C dX7_woodShare_50 ?_
  refine ok_fdiv C dX7_woodShare_51 ?_
  exact ok_freturn C dX7_woodShare_52
set_option maxHeartbeats 4000000 in
theorem oX7_woodShare_21 {Γ : CX} (C : OKC Γ cX7_woodShare RX7 (some (.float))) (T : ∀ z ∈ (cx_c Γ).exceptionTable.toList, False) (hn : cx_nL Γ = 3) (hR : cx_fr Γ = 3 ∧ cx_lo Γ = 105) (hin : (cx_meth Γ).name = yX7_woodShare.name) : ∀ (n : Nat) (a0 : Nat) (x1 : Int32) (x2 : Int32) (s0 : AS), OK Γ 21 [(0, .ref a0), (1, .int x1), (2, .int x2)] [] (fX7_woodShare_21 n a0 x1 x2 s0) s0 := by
  intro n
  induction n with
  | zero => intro _ _ _ s0; exact OK.none
  | succ n ih =>
    intro a0 x1 x2 s0
    rw [fX7_woodShare_21]
    refine ok_iload_n C 2 dX7_woodShare_21 rfl ?_
    refine ok_aload_n C 0 dX7_woodShare_22 rfl ?_
    refine ok_getI C frX7_154_11 dX7_woodShare_23 (fun v1 => ?_)
    refine ok_icmp_ge C 43 dX7_woodShare_26 (by decide) ?_ ?_
    · refine OK.sub (lv' := [(0, .ref a0), (1, .int x1)]) [0, 1] rfl ?_
      exact oX7_woodShare_43 C T hn hR hin a0 x1 s0
    · refine ok_iload_n C 1 dX7_woodShare_29 rfl ?_
      refine ok_aload_n C 0 dX7_woodShare_30 rfl ?_
      refine ok_iload_n C 2 dX7_woodShare_31 rfl ?_
      refine ok_callV C T [.int x2] (F := fX7_woodIn a0 x2) (ctX7_woodIn (C.2.2.2.2.2.2.2.2.1) a0 x2) vlX7_270 viX7_woodIn rfl rfl (by decide) rfl (by rw [hR.1, hR.2]; decide) (Nat.le_of_ble_eq_true rfl) dX7_woodShare_32 (ok_qI fun v2 s3 => ?_)
      refine ok_iadd C dX7_woodShare_35 ?_
      refine ok_lt (fun v4 => ?_)
      refine ok_istore_n C (i := 1) [(1, .int v4), (0, .ref a0), (2, .int x2)] dX7_woodShare_36 rfl (by rw [hn]; decide) rfl ?_
      refine ok_iincL C 2 (c := 1) (fun v5 => [(2, .int v5), (1, .int v4), (0, .ref a0)]) dX7_woodShare_37 rfl rfl (by rw [hn]; decide) (fun _ => rfl) (fun v5 => ?_)
      refine ok_goto C 21 dX7_woodShare_40 (by decide) ?_
      refine OK.sub (lv' := [(0, .ref a0), (1, .int v4), (2, .int v5)]) [2, 1, 0] rfl ?_
      exact ih a0 v4 v5 s3
set_option maxHeartbeats 4000000 in
theorem oX7_woodShare {Γ : CX} (C : OKC Γ cX7_woodShare RX7 (some (.float))) (T : ∀ z ∈ (cx_c Γ).exceptionTable.toList, False) (hn : cx_nL Γ = 3) (hR : cx_fr Γ = 3 ∧ cx_lo Γ = 105) (hin : (cx_meth Γ).name = yX7_woodShare.name) : ∀ (a0 : Nat) (s0 : AS), OK Γ 0 [(0, .ref a0)] [] (fX7_woodShare a0 s0) s0 := by
  intro a0 s0
  unfold fX7_woodShare
  refine ok_aload_n C 0 dX7_woodShare_0 rfl ?_
  refine ok_callV C T [] (F := fX7_notLoaded a0) (ctX7_notLoaded (C.2.2.2.2.2.2.2.2.1) a0) vlX7_320 viX7_notLoaded rfl rfl (by decide) rfl (by rw [hR.1, hR.2]; decide) (Nat.le_of_ble_eq_true rfl) dX7_woodShare_1 (ok_qI fun v1 s2 => ?_)
  refine ok_if_ne C 15 dX7_woodShare_4 (by decide) ?_ ?_
  · refine ok_fconst0 C dX7_woodShare_15 ?_
    exact ok_freturn C dX7_woodShare_16
  · refine ok_aload_n C 0 dX7_woodShare_7 rfl ?_
    refine ok_iconst C (v := 1) dX7_woodShare_8 (by decide) ?_
    refine ok_callV C T [.int 1] (F := fX7_sumOver a0 1) (ctX7_sumOver (C.2.2.2.2.2.2.2.2.1) a0 1) vlX7_323 viX7_sumOver rfl rfl (by decide) rfl (by rw [hR.1, hR.2]; decide) (Nat.le_of_ble_eq_true rfl) dX7_woodShare_9 (ok_qI fun v3 s4 => ?_)
    refine ok_if_ne C 17 dX7_woodShare_12 (by decide) ?_ ?_
    · refine ok_iconst C (v := 0) dX7_woodShare_17 (by decide) ?_
      refine ok_istore_n C (i := 1) [(1, .int 0), (0, .ref a0)] dX7_woodShare_18 rfl (by rw [hn]; decide) rfl ?_
      refine ok_iconst C (v := 0) dX7_woodShare_19 (by decide) ?_
      refine ok_istore_n C (i := 2) [(2, .int 0), (1, .int 0), (0, .ref a0)] dX7_woodShare_20 rfl (by rw [hn]; decide) rfl ?_
      refine OK.sub (lv' := [(0, .ref a0), (1, .int 0), (2, .int 0)]) [2, 1, 0] rfl ?_
      exact oX7_woodShare_21 C T hn hR hin FU a0 0 0 s4
    · refine ok_fconst0 C dX7_woodShare_15 ?_
      exact ok_freturn C dX7_woodShare_16
theorem ctX7_woodShare {l : Launch} (hl : l.stackTraces = false) {D : va_G} {dA : Nat → ClassId} {B0 : Nat} (a0 : Nat) : Ct l D dA B0 yX7_woodShare (.code yX7_woodShare cX7_woodShare 3 (some (.float)) :: ax_ALL) 3 105 [.ref a0] (fX7_woodShare a0) :=
  Ct.of hl (by decide +kernel) (Nat.le_of_ble_eq_true rfl) fun Γ C _ _ _ _ e5 e6 e7 T hin => oX7_woodShare C T e5 ⟨e6, e7⟩ hin a0 _
/-! ChaseLockerModel.goodShare()F -/
def fX7_goodShare (a0 : Nat) (s0 : AS) : Option AR :=
  cV s0 a0 11 (fX7_notLoaded a0 s0) (qI (fun v1 s2 =>
  if v1 = 0 then (
    gR s2 a0 11 12 (fun q3 =>
    aI s2 q3 100 1 (fun v4 =>
    if v4 = 0 then (
      some (.inl (some (.float 0)), s2))
    else (
      gR s2 a0 11 12 (fun q5 =>
      aI s2 q5 100 2 (fun v6 =>
      gR s2 a0 11 12 (fun q7 =>
      aI s2 q7 100 1 (fun v8 =>
      if FP.fdiv (FP.i2f v6) (FP.i2f v8) &&& 0x7fffffff ≤ 0x7f800000 then (
      some (.inl (some (.float (FP.fdiv (FP.i2f v6) (FP.i2f v8)))), s2)) else none))))))))
  else (
    some (.inl (some (.float 0)), s2))))
set_option maxHeartbeats 4000000 in
theorem oX7_goodShare {Γ : CX} (C : OKC Γ cX7_goodShare RX7 (some (.float))) (T : ∀ z ∈ (cx_c Γ).exceptionTable.toList, False) (hn : cx_nL Γ = 1) (hR : cx_fr Γ = 3 ∧ cx_lo Γ = 102) (hin : (cx_meth Γ).name = yX7_goodShare.name) : ∀ (a0 : Nat) (s0 : AS), OK Γ 0 [(0, .ref a0)] [] (fX7_goodShare a0 s0) s0 := by
  intro a0 s0
  unfold fX7_goodShare
  refine ok_aload_n C 0 dX7_goodShare_0 rfl ?_
  refine ok_callV C T [] (F := fX7_notLoaded a0) (ctX7_notLoaded (C.2.2.2.2.2.2.2.2.1) a0) vlX7_320 viX7_notLoaded rfl rfl (by decide) rfl (by rw [hR.1, hR.2]; decide) (Nat.le_of_ble_eq_true rfl) dX7_goodShare_1 (ok_qI fun v1 s2 => ?_)
  refine ok_if_ne C 16 dX7_goodShare_4 (by decide) ?_ ?_
  · refine ok_fconst0 C dX7_goodShare_16 ?_
    refine ok_goto C 35 dX7_goodShare_17 (by decide) ?_
    exact ok_freturn C dX7_goodShare_35
  · refine ok_aload_n C 0 dX7_goodShare_7 rfl ?_
    refine ok_getR C frX7_17_11 dX7_goodShare_8 (fun q3 => ?_)
    refine ok_iconst C (v := 1) dX7_goodShare_11 (by decide) ?_
    refine ok_iald C dX7_goodShare_12 (fun v4 => ?_)
    refine ok_if_ne C 20 dX7_goodShare_13 (by decide) ?_ ?_
    · refine ok_aload_n C 0 dX7_goodShare_20 rfl ?_
      refine ok_getR C frX7_17_11 dX7_goodShare_21 (fun q5 => ?_)
      refine ok_iconst C (v := 2) dX7_goodShare_24 (by decide) ?_
      refine ok_iald C dX7_goodShare_25 (fun v6 => ?_)
      refine ok_i2f C dX7_goodShare_26 ?_
      refine ok_aload_n C 0 dX7_goodShare_27 rfl ?_
      refine ok_getR C frX7_17_11 dX7_goodShare_28 (fun q7 => ?_)
      refine ok_iconst C (v := 1) dX7_goodShare_31 (by decide) ?_
      refine ok_iald C dX7_goodShare_32 (fun v8 => ?_)
      refine ok_i2f C dX7_goodShare_33 ?_
      refine ok_fdiv C dX7_goodShare_34 ?_
      exact ok_freturn C dX7_goodShare_35
    · refine ok_fconst0 C dX7_goodShare_16 ?_
      refine ok_goto C 35 dX7_goodShare_17 (by decide) ?_
      exact ok_freturn C dX7_goodShare_35
theorem ctX7_goodShare {l : Launch} (hl : l.stackTraces = false) {D : va_G} {dA : Nat → ClassId} {B0 : Nat} (a0 : Nat) : Ct l D dA B0 yX7_goodShare (.code yX7_goodShare cX7_goodShare 1 (some (.float)) :: ax_ALL) 3 102 [.ref a0] (fX7_goodShare a0) :=
  Ct.of hl (by decide +kernel) (Nat.le_of_ble_eq_true rfl) fun Γ C _ _ _ _ e5 e6 e7 T hin => oX7_goodShare C T e5 ⟨e6, e7⟩ hin a0 _
/-! ChaseLockerModel.choice(II)I -/
def fX7_choice_23  (a0 : Nat) (x1 : Int32) (x2 : Int32) (t0 : Nat) (t1 : Int32) (s0 : AS) : Option AR :=
  cV s0 t0 11 (fX7_refuse t0 t1 3 s0) (qI (fun v1 s2 =>
  if v1 = 0 then (
    cV s2 a0 11 (fX7_chooses a0 x1 s2) (qI (fun v3 s4 =>
    if v3 = 0 then (
      some (.inl (some (.int ((-1)))), s4))
    else (
      if x2 = 0 then (
        cV s4 a0 11 (fX7_chosenMany a0 0 s4) (qI (fun v10 s11 =>
        some (.inl (some (.int v10)), s11))))
      else (
        if x2 = (1 : Int32) then (
          gI s4 a0 11 36 (fun v9 =>
          some (.inl (some (.int v9)), s4)))
        else (
          if x2 = (2 : Int32) then (
            cV s4 a0 11 (fX7_chosenLong a0 s4) (qI (fun v7 s8 =>
            some (.inl (some (.int v7)), s8))))
          else (
            cV s4 a0 11 (fX7_chosenMany a0 1 s4) (qI (fun v5 s6 =>
            some (.inl (some (.int v5)), s6))))))))))
  else (
    some (.inl (some (.int 0)), s2))))
def fX7_choice (a0 : Nat) (x1 : Int32) (x2 : Int32) (s0 : AS) : Option AR :=
  cV s0 a0 11 (fX7_noRow a0 x1 s0) (qI (fun v1 s2 =>
  if v1 = 0 then (
    cS s2 (fX7_in x2 0 3 s2) (qI (fun v3 s4 =>
    if v3 = 0 then (
      fX7_choice_23 a0 x1 x2 a0 1 s4)
    else (
      fX7_choice_23 a0 x1 x2 a0 0 s4))))
  else (
    some (.inl (some (.int 0)), s2))))
set_option maxHeartbeats 4000000 in
theorem oX7_choice_23 {Γ : CX} (C : OKC Γ cX7_choice RX7 (some (.int))) (T : ∀ z ∈ (cx_c Γ).exceptionTable.toList, False) (hn : cx_nL Γ = 3) (hR : cx_fr Γ = 9 ∧ cx_lo Γ = 238) (hin : (cx_meth Γ).name = yX7_choice.name) : ∀ (a0 : Nat) (x1 : Int32) (x2 : Int32) (t0 : Nat) (t1 : Int32) (s0 : AS), OK Γ 23 [(0, .ref a0), (1, .int x1), (2, .int x2)] [.int t1, .ref t0] (fX7_choice_23  a0 x1 x2 t0 t1 s0) s0 := by
  intro a0 x1 x2 t0 t1 s0
  unfold fX7_choice_23
  refine ok_iconst C (v := 3) dX7_choice_23 (by decide) ?_
  refine ok_callV C T [.int t1, .int 3] (F := fX7_refuse t0 t1 3) (ctX7_refuse (C.2.2.2.2.2.2.2.2.1) t0 t1 3) vlX7_74 viX7_refuse rfl rfl (by decide) rfl (by rw [hR.1, hR.2]; decide) (Nat.le_of_ble_eq_true rfl) dX7_choice_24 (ok_qI fun v1 s2 => ?_)
  refine ok_if_eq C 32 dX7_choice_27 (by decide) ?_ ?_
  · refine ok_aload_n C 0 dX7_choice_32 rfl ?_
    refine ok_iload_n C 1 dX7_choice_33 rfl ?_
    refine ok_callV C T [.int x1] (F := fX7_chooses a0 x1) (ctX7_chooses (C.2.2.2.2.2.2.2.2.1) a0 x1) vlX7_311 viX7_chooses rfl rfl (by decide) rfl (by rw [hR.1, hR.2]; decide) (Nat.le_of_ble_eq_true rfl) dX7_choice_34 (ok_qI fun v3 s4 => ?_)
    refine ok_if_ne C 42 dX7_choice_37 (by decide) ?_ ?_
    · refine ok_iload_n C 2 dX7_choice_42 rfl ?_
      refine ok_if_ne C 54 dX7_choice_43 (by decide) ?_ ?_
      · refine ok_iload_n C 2 dX7_choice_54 rfl ?_
        refine ok_iconst C (v := 1) dX7_choice_55 (by decide) ?_
        refine ok_icmp_ne C 66 dX7_choice_56 (by decide) ?_ ?_
        · refine ok_iload_n C 2 dX7_choice_66 rfl ?_
          refine ok_iconst C (v := 2) dX7_choice_67 (by decide) ?_
          refine ok_icmp_ne C 78 dX7_choice_68 (by decide) ?_ ?_
          · refine ok_aload_n C 0 dX7_choice_78 rfl ?_
            refine ok_iconst C (v := 1) dX7_choice_79 (by decide) ?_
            refine ok_callV C T [.int 1] (F := fX7_chosenMany a0 1) (ctX7_chosenMany (C.2.2.2.2.2.2.2.2.1) a0 1) vlX7_344 viX7_chosenMany rfl rfl (by decide) rfl (by rw [hR.1, hR.2]; decide) (Nat.le_of_ble_eq_true rfl) dX7_choice_80 (ok_qI fun v5 s6 => ?_)
            exact ok_ireturn C dX7_choice_83
          · refine ok_aload_n C 0 dX7_choice_71 rfl ?_
            refine ok_callV C T [] (F := fX7_chosenLong a0) (ctX7_chosenLong (C.2.2.2.2.2.2.2.2.1) a0) vlX7_347 viX7_chosenLong rfl rfl (by decide) rfl (by rw [hR.1, hR.2]; decide) (Nat.le_of_ble_eq_true rfl) dX7_choice_72 (ok_qI fun v7 s8 => ?_)
            refine ok_goto C 83 dX7_choice_75 (by decide) ?_
            exact ok_ireturn C dX7_choice_83
        · refine ok_aload_n C 0 dX7_choice_59 rfl ?_
          refine ok_getI C frX7_298_11 dX7_choice_60 (fun v9 => ?_)
          refine ok_goto C 83 dX7_choice_63 (by decide) ?_
          exact ok_ireturn C dX7_choice_83
      · refine ok_aload_n C 0 dX7_choice_46 rfl ?_
        refine ok_iconst C (v := 0) dX7_choice_47 (by decide) ?_
        refine ok_callV C T [.int 0] (F := fX7_chosenMany a0 0) (ctX7_chosenMany (C.2.2.2.2.2.2.2.2.1) a0 0) vlX7_344 viX7_chosenMany rfl rfl (by decide) rfl (by rw [hR.1, hR.2]; decide) (Nat.le_of_ble_eq_true rfl) dX7_choice_48 (ok_qI fun v10 s11 => ?_)
        refine ok_goto C 83 dX7_choice_51 (by decide) ?_
        exact ok_ireturn C dX7_choice_83
    · refine ok_iconst C (v := (-1)) dX7_choice_40 (by decide) ?_
      exact ok_ireturn C dX7_choice_41
  · refine ok_iconst C (v := 0) dX7_choice_30 (by decide) ?_
    exact ok_ireturn C dX7_choice_31
set_option maxHeartbeats 4000000 in
theorem oX7_choice {Γ : CX} (C : OKC Γ cX7_choice RX7 (some (.int))) (T : ∀ z ∈ (cx_c Γ).exceptionTable.toList, False) (hn : cx_nL Γ = 3) (hR : cx_fr Γ = 9 ∧ cx_lo Γ = 238) (hin : (cx_meth Γ).name = yX7_choice.name) : ∀ (a0 : Nat) (x1 : Int32) (x2 : Int32) (s0 : AS), OK Γ 0 [(0, .ref a0), (1, .int x1), (2, .int x2)] [] (fX7_choice a0 x1 x2 s0) s0 := by
  intro a0 x1 x2 s0
  unfold fX7_choice
  refine ok_aload_n C 0 dX7_choice_0 rfl ?_
  refine ok_iload_n C 1 dX7_choice_1 rfl ?_
  refine ok_callV C T [.int x1] (F := fX7_noRow a0 x1) (ctX7_noRow (C.2.2.2.2.2.2.2.2.1) a0 x1) vlX7_335 viX7_noRow rfl rfl (by decide) rfl (by rw [hR.1, hR.2]; decide) (Nat.le_of_ble_eq_true rfl) dX7_choice_2 (ok_qI fun v1 s2 => ?_)
  refine ok_if_ne C 30 dX7_choice_5 (by decide) ?_ ?_
  · refine ok_iconst C (v := 0) dX7_choice_30 (by decide) ?_
    exact ok_ireturn C dX7_choice_31
  · refine ok_aload_n C 0 dX7_choice_8 rfl ?_
    refine ok_iload_n C 2 dX7_choice_9 rfl ?_
    refine ok_iconst C (v := 0) dX7_choice_10 (by decide) ?_
    refine ok_iconst C (v := 3) dX7_choice_11 (by decide) ?_
    refine ok_callS C T [.int x2, .int 0, .int 3] (F := fX7_in x2 0 3) (ctX7_in (C.2.2.2.2.2.2.2.2.1) x2 0 3) vlX7_143 kw_793 rfl (by rw [hR.1, hR.2]; decide) (Nat.le_of_ble_eq_true rfl) dX7_choice_12 (ok_qI fun v3 s4 => ?_)
    refine ok_if_ne C 22 dX7_choice_15 (by decide) ?_ ?_
    · refine ok_iconst C (v := 0) dX7_choice_22 (by decide) ?_
      exact oX7_choice_23 C T hn hR hin a0 x1 x2 a0 0 s4
    · refine ok_iconst C (v := 1) dX7_choice_18 (by decide) ?_
      refine ok_goto C 23 dX7_choice_19 (by decide) ?_
      exact oX7_choice_23 C T hn hR hin a0 x1 x2 a0 1 s4
theorem ctX7_choice {l : Launch} (hl : l.stackTraces = false) {D : va_G} {dA : Nat → ClassId} {B0 : Nat} (a0 : Nat) (x1 : Int32) (x2 : Int32) : Ct l D dA B0 yX7_choice (.code yX7_choice cX7_choice 3 (some (.int)) :: ax_ALL) 9 238 [.ref a0, .int x1, .int x2] (fX7_choice a0 x1 x2) :=
  Ct.of hl (by decide +kernel) (Nat.le_of_ble_eq_true rfl) fun Γ C _ _ _ _ e5 e6 e7 T hin => oX7_choice C T e5 ⟨e6, e7⟩ hin a0 x1 x2 _
/-! ChaseLockerModel.chosen(II)I -/
def fX7_chosen_22  (a0 : Nat) (x1 : Int32) (x2 : Int32) (t0 : Nat) (t1 : Int32) (s0 : AS) : Option AR :=
  cV s0 t0 11 (fX7_refuse t0 t1 2 s0) (qI (fun v1 s2 =>
  if v1 = 0 then (
    cV s2 a0 11 (fX7_chooses a0 x1 s2) (qI (fun v3 s4 =>
    if v3 = 0 then (
      some (.inl (some (.int ((-1)))), s4))
    else (
      gR s4 a0 11 35 (fun q5 =>
      aI s4 q5 100 x2 (fun v6 =>
      some (.inl (some (.int v6)), s4)))))))
  else (
    some (.inl (some (.int 0)), s2))))
def fX7_chosen (a0 : Nat) (x1 : Int32) (x2 : Int32) (s0 : AS) : Option AR :=
  cV s0 a0 11 (fX7_noRow a0 x1 s0) (qI (fun v1 s2 =>
  if v1 = 0 then (
    cV s2 a0 11 (fX7_isKind a0 x2 s2) (qI (fun v3 s4 =>
    if v3 = 0 then (
      fX7_chosen_22 a0 x1 x2 a0 1 s4)
    else (
      fX7_chosen_22 a0 x1 x2 a0 0 s4))))
  else (
    some (.inl (some (.int 0)), s2))))
set_option maxHeartbeats 4000000 in
theorem oX7_chosen_22 {Γ : CX} (C : OKC Γ cX7_chosen RX7 (some (.int))) (T : ∀ z ∈ (cx_c Γ).exceptionTable.toList, False) (hn : cx_nL Γ = 3) (hR : cx_fr Γ = 9 ∧ cx_lo Γ = 238) (hin : (cx_meth Γ).name = yX7_chosen.name) : ∀ (a0 : Nat) (x1 : Int32) (x2 : Int32) (t0 : Nat) (t1 : Int32) (s0 : AS), OK Γ 22 [(0, .ref a0), (1, .int x1), (2, .int x2)] [.int t1, .ref t0] (fX7_chosen_22  a0 x1 x2 t0 t1 s0) s0 := by
  intro a0 x1 x2 t0 t1 s0
  unfold fX7_chosen_22
  refine ok_iconst C (v := 2) dX7_chosen_22 (by decide) ?_
  refine ok_callV C T [.int t1, .int 2] (F := fX7_refuse t0 t1 2) (ctX7_refuse (C.2.2.2.2.2.2.2.2.1) t0 t1 2) vlX7_74 viX7_refuse rfl rfl (by decide) rfl (by rw [hR.1, hR.2]; decide) (Nat.le_of_ble_eq_true rfl) dX7_chosen_23 (ok_qI fun v1 s2 => ?_)
  refine ok_if_eq C 31 dX7_chosen_26 (by decide) ?_ ?_
  · refine ok_aload_n C 0 dX7_chosen_31 rfl ?_
    refine ok_iload_n C 1 dX7_chosen_32 rfl ?_
    refine ok_callV C T [.int x1] (F := fX7_chooses a0 x1) (ctX7_chooses (C.2.2.2.2.2.2.2.2.1) a0 x1) vlX7_311 viX7_chooses rfl rfl (by decide) rfl (by rw [hR.1, hR.2]; decide) (Nat.le_of_ble_eq_true rfl) dX7_chosen_33 (ok_qI fun v3 s4 => ?_)
    refine ok_if_eq C 48 dX7_chosen_36 (by decide) ?_ ?_
    · refine ok_iconst C (v := (-1)) dX7_chosen_48 (by decide) ?_
      exact ok_ireturn C dX7_chosen_49
    · refine ok_aload_n C 0 dX7_chosen_39 rfl ?_
      refine ok_getR C frX7_55_11 dX7_chosen_40 (fun q5 => ?_)
      refine ok_iload_n C 2 dX7_chosen_43 rfl ?_
      refine ok_iald C dX7_chosen_44 (fun v6 => ?_)
      refine ok_goto C 49 dX7_chosen_45 (by decide) ?_
      exact ok_ireturn C dX7_chosen_49
  · refine ok_iconst C (v := 0) dX7_chosen_29 (by decide) ?_
    exact ok_ireturn C dX7_chosen_30
set_option maxHeartbeats 4000000 in
theorem oX7_chosen {Γ : CX} (C : OKC Γ cX7_chosen RX7 (some (.int))) (T : ∀ z ∈ (cx_c Γ).exceptionTable.toList, False) (hn : cx_nL Γ = 3) (hR : cx_fr Γ = 9 ∧ cx_lo Γ = 238) (hin : (cx_meth Γ).name = yX7_chosen.name) : ∀ (a0 : Nat) (x1 : Int32) (x2 : Int32) (s0 : AS), OK Γ 0 [(0, .ref a0), (1, .int x1), (2, .int x2)] [] (fX7_chosen a0 x1 x2 s0) s0 := by
  intro a0 x1 x2 s0
  unfold fX7_chosen
  refine ok_aload_n C 0 dX7_chosen_0 rfl ?_
  refine ok_iload_n C 1 dX7_chosen_1 rfl ?_
  refine ok_callV C T [.int x1] (F := fX7_noRow a0 x1) (ctX7_noRow (C.2.2.2.2.2.2.2.2.1) a0 x1) vlX7_335 viX7_noRow rfl rfl (by decide) rfl (by rw [hR.1, hR.2]; decide) (Nat.le_of_ble_eq_true rfl) dX7_chosen_2 (ok_qI fun v1 s2 => ?_)
  refine ok_if_ne C 29 dX7_chosen_5 (by decide) ?_ ?_
  · refine ok_iconst C (v := 0) dX7_chosen_29 (by decide) ?_
    exact ok_ireturn C dX7_chosen_30
  · refine ok_aload_n C 0 dX7_chosen_8 rfl ?_
    refine ok_aload_n C 0 dX7_chosen_9 rfl ?_
    refine ok_iload_n C 2 dX7_chosen_10 rfl ?_
    refine ok_callV C T [.int x2] (F := fX7_isKind a0 x2) (ctX7_isKind (C.2.2.2.2.2.2.2.2.1) a0 x2) vlX7_338 viX7_isKind rfl rfl (by decide) rfl (by rw [hR.1, hR.2]; decide) (Nat.le_of_ble_eq_true rfl) dX7_chosen_11 (ok_qI fun v3 s4 => ?_)
    refine ok_if_ne C 21 dX7_chosen_14 (by decide) ?_ ?_
    · refine ok_iconst C (v := 0) dX7_chosen_21 (by decide) ?_
      exact oX7_chosen_22 C T hn hR hin a0 x1 x2 a0 0 s4
    · refine ok_iconst C (v := 1) dX7_chosen_17 (by decide) ?_
      refine ok_goto C 22 dX7_chosen_18 (by decide) ?_
      exact oX7_chosen_22 C T hn hR hin a0 x1 x2 a0 1 s4
theorem ctX7_chosen {l : Launch} (hl : l.stackTraces = false) {D : va_G} {dA : Nat → ClassId} {B0 : Nat} (a0 : Nat) (x1 : Int32) (x2 : Int32) : Ct l D dA B0 yX7_chosen (.code yX7_chosen cX7_chosen 3 (some (.int)) :: ax_ALL) 9 238 [.ref a0, .int x1, .int x2] (fX7_chosen a0 x1 x2) :=
  Ct.of hl (by decide +kernel) (Nat.le_of_ble_eq_true rfl) fun Γ C _ _ _ _ e5 e6 e7 T hin => oX7_chosen C T e5 ⟨e6, e7⟩ hin a0 x1 x2 _
/-! ChaseLockerModel.ways(I)I -/
def fX7_ways_95 (r56 : Nat → Int32 → Int32 → Int32 → Int32 → AS → Option AR) (a0 : Nat) (x1 : Int32) (x3 : Int32) (x5 : Int32) (t0 : Int32) (s0 : AS) : Option AR :=
  lt (x5 + 1) (fun v1 =>
  r56 a0 x1 x3 t0 v1 s0)
def fX7_ways_56  : Nat → Nat → Int32 → Int32 → Int32 → Int32 → AS → Option AR
  | 0, _, _, _, _, _, _ => none
  | n + 1, a0, x1, x3, x4, x5, s0 =>
    if x3 < x5 then (
      some (.inl (some (.int x4)), s0))
    else (
      cV s0 a0 11 (fX7_sumFor a0 x1 x5 s0) (qI (fun v1 s2 =>
      if 0 ≤ v1 then (
        gR s2 a0 11 38 (fun q3 =>
        aI s2 q3 100 v1 (fun v4 =>
        if (1000003 : Int32) = 0 then none else (
        fX7_ways_95 (fX7_ways_56 n) a0 x1 x3 x5 ((x4 + v4) - (x4 + v4) / 1000003 * 1000003) s2))))
      else (
        fX7_ways_95 (fX7_ways_56 n) a0 x1 x3 x5 x4 s2))))
def fX7_ways_49  (a0 : Nat) (x1 : Int32) (x2 : Int32) (t0 : Int32) (s0 : AS) : Option AR :=
  fX7_ways_56 FU a0 x1 t0 0 x2 s0
def fX7_ways_32  (a0 : Nat) (x1 : Int32) (t0 : Int32) (s0 : AS) : Option AR :=
  cV s0 a0 11 (fX7_canOpen a0 x1 s0) (qI (fun v1 s2 =>
  if v1 = 0 then (
    fX7_ways_49 a0 x1 t0 ((-1)) s2)
  else (
    gI s2 a0 11 5 (fun v3 =>
    fX7_ways_49 a0 x1 t0 v3 s2))))
def fX7_ways (a0 : Nat) (x1 : Int32) (s0 : AS) : Option AR :=
  cV s0 a0 11 (fX7_noRow a0 x1 s0) (qI (fun v1 s2 =>
  if v1 = 0 then (
    cV s2 a0 11 (fX7_need a0 x1 s2) (qI (fun v3 s4 =>
    cV s4 a0 11 (fX7_laysWays a0 v3 s4) (qV (fun s5 =>
    cV s5 a0 11 (fX7_canOpen a0 x1 s5) (qI (fun v6 s7 =>
    if v6 = 0 then (
      fX7_ways_32 a0 x1 ((-1)) s7)
    else (
      fX7_ways_32 a0 x1 0 s7))))))))
  else (
    some (.inl (some (.int 0)), s2))))
set_option maxHeartbeats 4000000 in
theorem oX7_ways_95 {Γ : CX} (C : OKC Γ cX7_ways RX7 (some (.int))) (T : ∀ z ∈ (cx_c Γ).exceptionTable.toList, False) (hn : cx_nL Γ = 7) (hR : cx_fr Γ = 8 ∧ cx_lo Γ = 211) (hin : (cx_meth Γ).name = yX7_ways.name) {r56 : Nat → Int32 → Int32 → Int32 → Int32 → AS → Option AR} (h56 : ∀ (a0 : Nat) (x1 : Int32) (x3 : Int32) (x4 : Int32) (x5 : Int32) (s0 : AS), OK Γ 56 [(0, .ref a0), (1, .int x1), (3, .int x3), (4, .int x4), (5, .int x5)] [] (r56 a0 x1 x3 x4 x5 s0) s0) : ∀ (a0 : Nat) (x1 : Int32) (x3 : Int32) (x5 : Int32) (t0 : Int32) (s0 : AS), OK Γ 95 [(0, .ref a0), (1, .int x1), (3, .int x3), (5, .int x5)] [.int t0] (fX7_ways_95 r56 a0 x1 x3 x5 t0 s0) s0 := by
  intro a0 x1 x3 x5 t0 s0
  unfold fX7_ways_95
  refine ok_istore C (i := 4) [(4, .int t0), (0, .ref a0), (1, .int x1), (3, .int x3), (5, .int x5)] dX7_ways_95 (by rw [hn]; decide) rfl ?_
  refine ok_iincL C 4 (c := 1) (fun v1 => [(5, .int v1), (4, .int t0), (0, .ref a0), (1, .int x1), (3, .int x3)]) dX7_ways_97 rfl rfl (by rw [hn]; decide) (fun _ => rfl) (fun v1 => ?_)
  refine ok_goto C 56 dX7_ways_100 (by decide) ?_
  refine OK.sub (lv' := [(0, .ref a0), (1, .int x1), (3, .int x3), (4, .int t0), (5, .int v1)]) [2, 3, 4, 1, 0] rfl ?_
  exact h56 a0 x1 x3 t0 v1 s0
set_option maxHeartbeats 4000000 in
theorem oX7_ways_56 {Γ : CX} (C : OKC Γ cX7_ways RX7 (some (.int))) (T : ∀ z ∈ (cx_c Γ).exceptionTable.toList, False) (hn : cx_nL Γ = 7) (hR : cx_fr Γ = 8 ∧ cx_lo Γ = 211) (hin : (cx_meth Γ).name = yX7_ways.name) : ∀ (n : Nat) (a0 : Nat) (x1 : Int32) (x3 : Int32) (x4 : Int32) (x5 : Int32) (s0 : AS), OK Γ 56 [(0, .ref a0), (1, .int x1), (3, .int x3), (4, .int x4), (5, .int x5)] [] (fX7_ways_56 n a0 x1 x3 x4 x5 s0) s0 := by
  intro n
  induction n with
  | zero => intro _ _ _ _ _ s0; exact OK.none
  | succ n ih =>
    intro a0 x1 x3 x4 x5 s0
    rw [fX7_ways_56]
    refine ok_iload C 4 dX7_ways_56 rfl ?_
    refine ok_iload_n C 2 dX7_ways_58 rfl ?_
    refine ok_icmp_gt C 103 dX7_ways_59 (by decide) ?_ ?_
    · refine ok_iload C 3 dX7_ways_103 rfl ?_
      exact ok_ireturn C dX7_ways_105
    · refine ok_aload_n C 0 dX7_ways_62 rfl ?_
      refine ok_iload_n C 1 dX7_ways_63 rfl ?_
      refine ok_iload C 4 dX7_ways_64 rfl ?_
      refine ok_callV C T [.int x1, .int x5] (F := fX7_sumFor a0 x1 x5) (ctX7_sumFor (C.2.2.2.2.2.2.2.2.1) a0 x1 x5) vlX7_304 viX7_sumFor rfl rfl (by decide) rfl (by rw [hR.1, hR.2]; decide) (Nat.le_of_ble_eq_true rfl) dX7_ways_66 (ok_qI fun v1 s2 => ?_)
      refine ok_istore C (i := 6) [(6, .int v1), (0, .ref a0), (1, .int x1), (3, .int x3), (4, .int x4), (5, .int x5)] dX7_ways_69 (by rw [hn]; decide) rfl ?_
      refine ok_iload C 0 dX7_ways_71 rfl ?_
      refine ok_if_ge C 81 dX7_ways_73 (by decide) ?_ ?_
      · refine ok_iload C 4 dX7_ways_81 rfl ?_
        refine ok_aload_n C 1 dX7_ways_83 rfl ?_
        refine ok_getR C frX7_61_11 dX7_ways_84 (fun q3 => ?_)
        refine ok_iload C 0 dX7_ways_87 rfl ?_
        refine ok_iald C dX7_ways_89 (fun v4 => ?_)
        refine ok_iadd C dX7_ways_90 ?_
        refine ok_ldcw C (v := 1000003) kw_946 dX7_ways_91 ?_
        refine ok_irem C dX7_ways_94 ?_
        refine OK.sub (lv' := [(0, .ref a0), (1, .int x1), (3, .int x3), (5, .int x5)]) [1, 2, 3, 5] rfl ?_
        exact oX7_ways_95 C T hn hR hin ih a0 x1 x3 x5 ((x4 + v4) - (x4 + v4) / 1000003 * 1000003) s2
      · refine ok_iload C 4 dX7_ways_76 rfl ?_
        refine ok_goto C 95 dX7_ways_78 (by decide) ?_
        refine OK.sub (lv' := [(0, .ref a0), (1, .int x1), (3, .int x3), (5, .int x5)]) [1, 2, 3, 5] rfl ?_
        exact oX7_ways_95 C T hn hR hin ih a0 x1 x3 x5 x4 s2
set_option maxHeartbeats 4000000 in
theorem oX7_ways_49 {Γ : CX} (C : OKC Γ cX7_ways RX7 (some (.int))) (T : ∀ z ∈ (cx_c Γ).exceptionTable.toList, False) (hn : cx_nL Γ = 7) (hR : cx_fr Γ = 8 ∧ cx_lo Γ = 211) (hin : (cx_meth Γ).name = yX7_ways.name) : ∀ (a0 : Nat) (x1 : Int32) (x2 : Int32) (t0 : Int32) (s0 : AS), OK Γ 49 [(0, .ref a0), (1, .int x1), (2, .int x2)] [.int t0] (fX7_ways_49  a0 x1 x2 t0 s0) s0 := by
  intro a0 x1 x2 t0 s0
  unfold fX7_ways_49
  refine ok_istore_n C (i := 3) [(3, .int t0), (0, .ref a0), (1, .int x1), (2, .int x2)] dX7_ways_49 rfl (by rw [hn]; decide) rfl ?_
  refine ok_iconst C (v := 0) dX7_ways_50 (by decide) ?_
  refine ok_istore C (i := 4) [(4, .int 0), (3, .int t0), (0, .ref a0), (1, .int x1), (2, .int x2)] dX7_ways_51 (by rw [hn]; decide) rfl ?_
  refine ok_iload_n C 4 dX7_ways_53 rfl ?_
  refine ok_istore C (i := 5) [(5, .int x2), (4, .int 0), (3, .int t0), (0, .ref a0), (1, .int x1), (2, .int x2)] dX7_ways_54 (by rw [hn]; decide) rfl ?_
  refine OK.sub (lv' := [(0, .ref a0), (1, .int x1), (3, .int t0), (4, .int 0), (5, .int x2)]) [3, 4, 2, 1, 0] rfl ?_
  exact oX7_ways_56 C T hn hR hin FU a0 x1 t0 0 x2 s0
set_option maxHeartbeats 4000000 in
theorem oX7_ways_32 {Γ : CX} (C : OKC Γ cX7_ways RX7 (some (.int))) (T : ∀ z ∈ (cx_c Γ).exceptionTable.toList, False) (hn : cx_nL Γ = 7) (hR : cx_fr Γ = 8 ∧ cx_lo Γ = 211) (hin : (cx_meth Γ).name = yX7_ways.name) : ∀ (a0 : Nat) (x1 : Int32) (t0 : Int32) (s0 : AS), OK Γ 32 [(0, .ref a0), (1, .int x1)] [.int t0] (fX7_ways_32  a0 x1 t0 s0) s0 := by
  intro a0 x1 t0 s0
  unfold fX7_ways_32
  refine ok_istore_n C (i := 2) [(2, .int t0), (0, .ref a0), (1, .int x1)] dX7_ways_32 rfl (by rw [hn]; decide) rfl ?_
  refine ok_aload_n C 1 dX7_ways_33 rfl ?_
  refine ok_iload_n C 2 dX7_ways_34 rfl ?_
  refine ok_callV C T [.int x1] (F := fX7_canOpen a0 x1) (ctX7_canOpen (C.2.2.2.2.2.2.2.2.1) a0 x1) vlX7_301 viX7_canOpen rfl rfl (by decide) rfl (by rw [hR.1, hR.2]; decide) (Nat.le_of_ble_eq_true rfl) dX7_ways_35 (ok_qI fun v1 s2 => ?_)
  refine ok_if_eq C 48 dX7_ways_38 (by decide) ?_ ?_
  · refine ok_iconst C (v := (-1)) dX7_ways_48 (by decide) ?_
    refine OK.sub (lv' := [(0, .ref a0), (1, .int x1), (2, .int t0)]) [1, 2, 0] rfl ?_
    exact oX7_ways_49 C T hn hR hin a0 x1 t0 ((-1)) s2
  · refine ok_aload_n C 1 dX7_ways_41 rfl ?_
    refine ok_getI C frX7_160_11 dX7_ways_42 (fun v3 => ?_)
    refine ok_goto C 49 dX7_ways_45 (by decide) ?_
    refine OK.sub (lv' := [(0, .ref a0), (1, .int x1), (2, .int t0)]) [1, 2, 0] rfl ?_
    exact oX7_ways_49 C T hn hR hin a0 x1 t0 v3 s2
set_option maxHeartbeats 4000000 in
theorem oX7_ways {Γ : CX} (C : OKC Γ cX7_ways RX7 (some (.int))) (T : ∀ z ∈ (cx_c Γ).exceptionTable.toList, False) (hn : cx_nL Γ = 7) (hR : cx_fr Γ = 8 ∧ cx_lo Γ = 211) (hin : (cx_meth Γ).name = yX7_ways.name) : ∀ (a0 : Nat) (x1 : Int32) (s0 : AS), OK Γ 0 [(0, .ref a0), (1, .int x1)] [] (fX7_ways a0 x1 s0) s0 := by
  intro a0 x1 s0
  unfold fX7_ways
  refine ok_aload_n C 0 dX7_ways_0 rfl ?_
  refine ok_iload_n C 1 dX7_ways_1 rfl ?_
  refine ok_callV C T [.int x1] (F := fX7_noRow a0 x1) (ctX7_noRow (C.2.2.2.2.2.2.2.2.1) a0 x1) vlX7_335 viX7_noRow rfl rfl (by decide) rfl (by rw [hR.1, hR.2]; decide) (Nat.le_of_ble_eq_true rfl) dX7_ways_2 (ok_qI fun v1 s2 => ?_)
  refine ok_if_eq C 10 dX7_ways_5 (by decide) ?_ ?_
  · refine ok_aload_n C 0 dX7_ways_10 rfl ?_
    refine ok_aload_n C 0 dX7_ways_11 rfl ?_
    refine ok_iload_n C 1 dX7_ways_12 rfl ?_
    refine ok_callV C T [.int x1] (F := fX7_need a0 x1) (ctX7_need (C.2.2.2.2.2.2.2.2.1) a0 x1) vlX7_292 viX7_need rfl rfl (by decide) rfl (by rw [hR.1, hR.2]; decide) (Nat.le_of_ble_eq_true rfl) dX7_ways_13 (ok_qI fun v3 s4 => ?_)
    refine ok_callV C T [.int v3] (F := fX7_laysWays a0 v3) (ctX7_laysWays (C.2.2.2.2.2.2.2.2.1) a0 v3) vlX7_350 viX7_laysWays rfl rfl (by decide) rfl (by rw [hR.1, hR.2]; decide) (Nat.le_of_ble_eq_true rfl) dX7_ways_16 (ok_qV fun s5 => ?_)
    refine ok_aload_n C 0 dX7_ways_19 rfl ?_
    refine ok_iload_n C 1 dX7_ways_20 rfl ?_
    refine ok_callV C T [.int x1] (F := fX7_canOpen a0 x1) (ctX7_canOpen (C.2.2.2.2.2.2.2.2.1) a0 x1) vlX7_301 viX7_canOpen rfl rfl (by decide) rfl (by rw [hR.1, hR.2]; decide) (Nat.le_of_ble_eq_true rfl) dX7_ways_21 (ok_qI fun v6 s7 => ?_)
    refine ok_if_eq C 31 dX7_ways_24 (by decide) ?_ ?_
    · refine ok_iconst C (v := (-1)) dX7_ways_31 (by decide) ?_
      exact oX7_ways_32 C T hn hR hin a0 x1 ((-1)) s7
    · refine ok_iconst C (v := 0) dX7_ways_27 (by decide) ?_
      refine ok_goto C 32 dX7_ways_28 (by decide) ?_
      exact oX7_ways_32 C T hn hR hin a0 x1 0 s7
  · refine ok_iconst C (v := 0) dX7_ways_8 (by decide) ?_
    exact ok_ireturn C dX7_ways_9
theorem ctX7_ways {l : Launch} (hl : l.stackTraces = false) {D : va_G} {dA : Nat → ClassId} {B0 : Nat} (a0 : Nat) (x1 : Int32) : Ct l D dA B0 yX7_ways (.code yX7_ways cX7_ways 7 (some (.int)) :: ax_ALL) 8 211 [.ref a0, .int x1] (fX7_ways a0 x1) :=
  Ct.of hl (by decide +kernel) (Nat.le_of_ble_eq_true rfl) fun Γ C _ _ _ _ e5 e6 e7 T hin => oX7_ways C T e5 ⟨e6, e7⟩ hin a0 x1 _
/-! ChaseLockerModel.nearest(I)I -/
def fX7_nearest_123 (r61 : Nat → Int32 → Int32 → Int32 → Int32 → AS → Option AR) (a0 : Nat) (x1 : Int32) (x4 : Int32) (x5 : Int32) (x6 : Int32) (s0 : AS) : Option AR :=
  lt (x6 + 1) (fun v1 =>
  r61 a0 x1 x4 x5 v1 s0)
def fX7_nearest_115 (r61 : Nat → Int32 → Int32 → Int32 → Int32 → AS → Option AR) (r80 : Nat → Int32 → Int32 → Int32 → Int32 → Int32 → Int32 → AS → Option AR) (a0 : Nat) (x1 : Int32) (x4 : Int32) (x6 : Int32) (x7 : Int32) (x8 : Int32) (t0 : Int32) (s0 : AS) : Option AR :=
  lt (x8 + 1) (fun v1 =>
  r80 a0 x1 x4 t0 x6 x7 v1 s0)
def fX7_nearest_80 (r61 : Nat → Int32 → Int32 → Int32 → Int32 → AS → Option AR) : Nat → Nat → Int32 → Int32 → Int32 → Int32 → Int32 → Int32 → AS → Option AR
  | 0, _, _, _, _, _, _, _, _ => none
  | n + 1, a0, x1, x4, x5, x6, x7, x8, s0 =>
    if x7 < x8 then (
      fX7_nearest_123 r61 a0 x1 x4 x5 x6 s0)
    else (
      gR s0 a0 11 34 (fun q1 =>
      aI s0 q1 100 x8 (fun v2 =>
      if (1000000 : Int32) ≤ v2 then (
        fX7_nearest_115 r61 (fX7_nearest_80 r61 n) a0 x1 x4 x6 x7 x8 x5 s0)
      else (
        lt (if (x7 - x8) < x5 then (x7 - x8) else x5) (fun v3 =>
        fX7_nearest_115 r61 (fX7_nearest_80 r61 n) a0 x1 x4 x6 x7 x8 v3 s0)))))
def fX7_nearest_61  : Nat → Nat → Int32 → Int32 → Int32 → Int32 → AS → Option AR
  | 0, _, _, _, _, _, _ => none
  | n + 1, a0, x1, x4, x5, x6, s0 =>
    if x4 < x6 then (
      some (.inl (some (.int x5)), s0))
    else (
      cV s0 a0 11 (fX7_sumFor a0 x1 x6 s0) (qI (fun v1 s2 =>
      fX7_nearest_80 (fX7_nearest_61 n) FU a0 x1 x4 x5 x6 v1 0 s2)))
def fX7_nearest_51  (a0 : Nat) (x1 : Int32) (x3 : Int32) (t0 : Int32) (s0 : AS) : Option AR :=
  fX7_nearest_61 FU a0 x1 t0 1000000 x3 s0
def fX7_nearest_34  (a0 : Nat) (x1 : Int32) (t0 : Int32) (s0 : AS) : Option AR :=
  cV s0 a0 11 (fX7_hasQuoin a0 x1 s0) (qI (fun v1 s2 =>
  if v1 = 0 then (
    fX7_nearest_51 a0 x1 t0 ((-1)) s2)
  else (
    gI s2 a0 11 5 (fun v3 =>
    fX7_nearest_51 a0 x1 t0 v3 s2))))
def fX7_nearest (a0 : Nat) (x1 : Int32) (s0 : AS) : Option AR :=
  cV s0 a0 11 (fX7_noRow a0 x1 s0) (qI (fun v1 s2 =>
  if v1 = 0 then (
    cV s2 a0 11 (fX7_need a0 x1 s2) (qI (fun v3 s4 =>
    cV s4 a0 11 (fX7_laysFewest a0 v3 s4) (qV (fun s5 =>
    cV s5 a0 11 (fX7_hasQuoin a0 x1 s5) (qI (fun v6 s7 =>
    if v6 = 0 then (
      fX7_nearest_34 a0 x1 ((-1)) s7)
    else (
      fX7_nearest_34 a0 x1 0 s7))))))))
  else (
    some (.inl (some (.int 0)), s2))))
set_option maxHeartbeats 4000000 in
theorem oX7_nearest_123 {Γ : CX} (C : OKC Γ cX7_nearest RX7 (some (.int))) (T : ∀ z ∈ (cx_c Γ).exceptionTable.toList, False) (hn : cx_nL Γ = 9) (hR : cx_fr Γ = 8 ∧ cx_lo Γ = 211) (hin : (cx_meth Γ).name = yX7_nearest.name) {r61 : Nat → Int32 → Int32 → Int32 → Int32 → AS → Option AR} (h61 : ∀ (a0 : Nat) (x1 : Int32) (x4 : Int32) (x5 : Int32) (x6 : Int32) (s0 : AS), OK Γ 61 [(0, .ref a0), (1, .int x1), (4, .int x4), (5, .int x5), (6, .int x6)] [] (r61 a0 x1 x4 x5 x6 s0) s0) : ∀ (a0 : Nat) (x1 : Int32) (x4 : Int32) (x5 : Int32) (x6 : Int32) (s0 : AS), OK Γ 123 [(0, .ref a0), (1, .int x1), (4, .int x4), (5, .int x5), (6, .int x6)] [] (fX7_nearest_123 r61 a0 x1 x4 x5 x6 s0) s0 := by
  intro a0 x1 x4 x5 x6 s0
  unfold fX7_nearest_123
  refine ok_iincL C 4 (c := 1) (fun v1 => [(6, .int v1), (0, .ref a0), (1, .int x1), (4, .int x4), (5, .int x5)]) dX7_nearest_123 rfl rfl (by rw [hn]; decide) (fun _ => rfl) (fun v1 => ?_)
  refine ok_goto C 61 dX7_nearest_126 (by decide) ?_
  refine OK.sub (lv' := [(0, .ref a0), (1, .int x1), (4, .int x4), (5, .int x5), (6, .int v1)]) [1, 2, 3, 4, 0] rfl ?_
  exact h61 a0 x1 x4 x5 v1 s0
set_option maxHeartbeats 4000000 in
theorem oX7_nearest_115 {Γ : CX} (C : OKC Γ cX7_nearest RX7 (some (.int))) (T : ∀ z ∈ (cx_c Γ).exceptionTable.toList, False) (hn : cx_nL Γ = 9) (hR : cx_fr Γ = 8 ∧ cx_lo Γ = 211) (hin : (cx_meth Γ).name = yX7_nearest.name) {r61 : Nat → Int32 → Int32 → Int32 → Int32 → AS → Option AR} {r80 : Nat → Int32 → Int32 → Int32 → Int32 → Int32 → Int32 → AS → Option AR} (h61 : ∀ (a0 : Nat) (x1 : Int32) (x4 : Int32) (x5 : Int32) (x6 : Int32) (s0 : AS), OK Γ 61 [(0, .ref a0), (1, .int x1), (4, .int x4), (5, .int x5), (6, .int x6)] [] (r61 a0 x1 x4 x5 x6 s0) s0) (h80 : ∀ (a0 : Nat) (x1 : Int32) (x4 : Int32) (x5 : Int32) (x6 : Int32) (x7 : Int32) (x8 : Int32) (s0 : AS), OK Γ 80 [(0, .ref a0), (1, .int x1), (4, .int x4), (5, .int x5), (6, .int x6), (7, .int x7), (8, .int x8)] [] (r80 a0 x1 x4 x5 x6 x7 x8 s0) s0) : ∀ (a0 : Nat) (x1 : Int32) (x4 : Int32) (x6 : Int32) (x7 : Int32) (x8 : Int32) (t0 : Int32) (s0 : AS), OK Γ 115 [(0, .ref a0), (1, .int x1), (4, .int x4), (6, .int x6), (7, .int x7), (8, .int x8)] [.int t0] (fX7_nearest_115 r61 r80 a0 x1 x4 x6 x7 x8 t0 s0) s0 := by
  intro a0 x1 x4 x6 x7 x8 t0 s0
  unfold fX7_nearest_115
  refine ok_istore C (i := 5) [(5, .int t0), (0, .ref a0), (1, .int x1), (4, .int x4), (6, .int x6), (7, .int x7), (8, .int x8)] dX7_nearest_115 (by rw [hn]; decide) rfl ?_
  refine ok_iincL C 6 (c := 1) (fun v1 => [(8, .int v1), (5, .int t0), (0, .ref a0), (1, .int x1), (4, .int x4), (6, .int x6), (7, .int x7)]) dX7_nearest_117 rfl rfl (by rw [hn]; decide) (fun _ => rfl) (fun v1 => ?_)
  refine ok_goto C 80 dX7_nearest_120 (by decide) ?_
  refine OK.sub (lv' := [(0, .ref a0), (1, .int x1), (4, .int x4), (5, .int t0), (6, .int x6), (7, .int x7), (8, .int v1)]) [2, 3, 4, 1, 5, 6, 0] rfl ?_
  exact h80 a0 x1 x4 t0 x6 x7 v1 s0
set_option maxHeartbeats 4000000 in
theorem oX7_nearest_80 {Γ : CX} (C : OKC Γ cX7_nearest RX7 (some (.int))) (T : ∀ z ∈ (cx_c Γ).exceptionTable.toList, False) (hn : cx_nL Γ = 9) (hR : cx_fr Γ = 8 ∧ cx_lo Γ = 211) (hin : (cx_meth Γ).name = yX7_nearest.name) {r61 : Nat → Int32 → Int32 → Int32 → Int32 → AS → Option AR} (h61 : ∀ (a0 : Nat) (x1 : Int32) (x4 : Int32) (x5 : Int32) (x6 : Int32) (s0 : AS), OK Γ 61 [(0, .ref a0), (1, .int x1), (4, .int x4), (5, .int x5), (6, .int x6)] [] (r61 a0 x1 x4 x5 x6 s0) s0) : ∀ (n : Nat) (a0 : Nat) (x1 : Int32) (x4 : Int32) (x5 : Int32) (x6 : Int32) (x7 : Int32) (x8 : Int32) (s0 : AS), OK Γ 80 [(0, .ref a0), (1, .int x1), (4, .int x4), (5, .int x5), (6, .int x6), (7, .int x7), (8, .int x8)] [] (fX7_nearest_80 r61 n a0 x1 x4 x5 x6 x7 x8 s0) s0 := by
  intro n
  induction n with
  | zero => intro _ _ _ _ _ _ _ s0; exact OK.none
  | succ n ih =>
    intro a0 x1 x4 x5 x6 x7 x8 s0
    rw [fX7_nearest_80]
    refine ok_iload C 6 dX7_nearest_80 rfl ?_
    refine ok_iload C 5 dX7_nearest_82 rfl ?_
    refine ok_icmp_gt C 123 dX7_nearest_84 (by decide) ?_ ?_
    · refine OK.sub (lv' := [(0, .ref a0), (1, .int x1), (4, .int x4), (5, .int x5), (6, .int x6)]) [0, 1, 2, 3, 4] rfl ?_
      exact oX7_nearest_123 C T hn hR hin h61 a0 x1 x4 x5 x6 s0
    · refine ok_aload_n C 0 dX7_nearest_87 rfl ?_
      refine ok_getR C frX7_52_11 dX7_nearest_88 (fun q1 => ?_)
      refine ok_iload C 6 dX7_nearest_91 rfl ?_
      refine ok_iald C dX7_nearest_93 (fun v2 => ?_)
      refine ok_ldcw C (v := 1000000) kw_915 dX7_nearest_94 ?_
      refine ok_icmp_ge C 113 dX7_nearest_97 (by decide) ?_ ?_
      · refine ok_iload C 3 dX7_nearest_113 rfl ?_
        refine OK.sub (lv' := [(0, .ref a0), (1, .int x1), (4, .int x4), (6, .int x6), (7, .int x7), (8, .int x8)]) [0, 1, 2, 4, 5, 6] rfl ?_
        exact oX7_nearest_115 C T hn hR hin h61 ih a0 x1 x4 x6 x7 x8 x5 s0
      · refine ok_iload C 3 dX7_nearest_100 rfl ?_
        refine ok_iload C 5 dX7_nearest_102 rfl ?_
        refine ok_iload C 6 dX7_nearest_104 rfl ?_
        refine ok_isub C dX7_nearest_106 ?_
        refine ok_mmin C mlX7_287 (by rw [hR.1]; decide) (by rw [hR.2]; exact Nat.le_of_ble_eq_true rfl) dX7_nearest_107 ?_
        refine ok_lt (fun v3 => ?_)
        refine ok_goto C 115 dX7_nearest_110 (by decide) ?_
        refine OK.sub (lv' := [(0, .ref a0), (1, .int x1), (4, .int x4), (6, .int x6), (7, .int x7), (8, .int x8)]) [0, 1, 2, 4, 5, 6] rfl ?_
        exact oX7_nearest_115 C T hn hR hin h61 ih a0 x1 x4 x6 x7 x8 v3 s0
set_option maxHeartbeats 4000000 in
theorem oX7_nearest_61 {Γ : CX} (C : OKC Γ cX7_nearest RX7 (some (.int))) (T : ∀ z ∈ (cx_c Γ).exceptionTable.toList, False) (hn : cx_nL Γ = 9) (hR : cx_fr Γ = 8 ∧ cx_lo Γ = 211) (hin : (cx_meth Γ).name = yX7_nearest.name) : ∀ (n : Nat) (a0 : Nat) (x1 : Int32) (x4 : Int32) (x5 : Int32) (x6 : Int32) (s0 : AS), OK Γ 61 [(0, .ref a0), (1, .int x1), (4, .int x4), (5, .int x5), (6, .int x6)] [] (fX7_nearest_61 n a0 x1 x4 x5 x6 s0) s0 := by
  intro n
  induction n with
  | zero => intro _ _ _ _ _ s0; exact OK.none
  | succ n ih =>
    intro a0 x1 x4 x5 x6 s0
    rw [fX7_nearest_61]
    refine ok_iload C 4 dX7_nearest_61 rfl ?_
    refine ok_iload C 2 dX7_nearest_63 rfl ?_
    refine ok_icmp_gt C 129 dX7_nearest_65 (by decide) ?_ ?_
    · refine ok_iload C 3 dX7_nearest_129 rfl ?_
      exact ok_ireturn C dX7_nearest_131
    · refine ok_aload_n C 0 dX7_nearest_68 rfl ?_
      refine ok_iload_n C 1 dX7_nearest_69 rfl ?_
      refine ok_iload C 4 dX7_nearest_70 rfl ?_
      refine ok_callV C T [.int x1, .int x6] (F := fX7_sumFor a0 x1 x6) (ctX7_sumFor (C.2.2.2.2.2.2.2.2.1) a0 x1 x6) vlX7_304 viX7_sumFor rfl rfl (by decide) rfl (by rw [hR.1, hR.2]; decide) (Nat.le_of_ble_eq_true rfl) dX7_nearest_72 (ok_qI fun v1 s2 => ?_)
      refine ok_istore C (i := 7) [(7, .int v1), (0, .ref a0), (1, .int x1), (4, .int x4), (5, .int x5), (6, .int x6)] dX7_nearest_75 (by rw [hn]; decide) rfl ?_
      refine ok_iconst C (v := 0) dX7_nearest_77 (by decide) ?_
      refine ok_istore C (i := 8) [(8, .int 0), (7, .int v1), (0, .ref a0), (1, .int x1), (4, .int x4), (5, .int x5), (6, .int x6)] dX7_nearest_78 (by rw [hn]; decide) rfl ?_
      refine OK.sub (lv' := [(0, .ref a0), (1, .int x1), (4, .int x4), (5, .int x5), (6, .int x6), (7, .int v1), (8, .int 0)]) [2, 3, 4, 5, 6, 1, 0] rfl ?_
      exact oX7_nearest_80 C T hn hR hin ih FU a0 x1 x4 x5 x6 v1 0 s2
set_option maxHeartbeats 4000000 in
theorem oX7_nearest_51 {Γ : CX} (C : OKC Γ cX7_nearest RX7 (some (.int))) (T : ∀ z ∈ (cx_c Γ).exceptionTable.toList, False) (hn : cx_nL Γ = 9) (hR : cx_fr Γ = 8 ∧ cx_lo Γ = 211) (hin : (cx_meth Γ).name = yX7_nearest.name) : ∀ (a0 : Nat) (x1 : Int32) (x3 : Int32) (t0 : Int32) (s0 : AS), OK Γ 51 [(0, .ref a0), (1, .int x1), (3, .int x3)] [.int t0] (fX7_nearest_51  a0 x1 x3 t0 s0) s0 := by
  intro a0 x1 x3 t0 s0
  unfold fX7_nearest_51
  refine ok_istore C (i := 4) [(4, .int t0), (0, .ref a0), (1, .int x1), (3, .int x3)] dX7_nearest_51 (by rw [hn]; decide) rfl ?_
  refine ok_ldcw C (v := 1000000) kw_915 dX7_nearest_53 ?_
  refine ok_istore C (i := 5) [(5, .int 1000000), (4, .int t0), (0, .ref a0), (1, .int x1), (3, .int x3)] dX7_nearest_56 (by rw [hn]; decide) rfl ?_
  refine ok_iload_n C 4 dX7_nearest_58 rfl ?_
  refine ok_istore C (i := 6) [(6, .int x3), (5, .int 1000000), (4, .int t0), (0, .ref a0), (1, .int x1), (3, .int x3)] dX7_nearest_59 (by rw [hn]; decide) rfl ?_
  refine OK.sub (lv' := [(0, .ref a0), (1, .int x1), (4, .int t0), (5, .int 1000000), (6, .int x3)]) [3, 4, 2, 1, 0] rfl ?_
  exact oX7_nearest_61 C T hn hR hin FU a0 x1 t0 1000000 x3 s0
set_option maxHeartbeats 4000000 in
theorem oX7_nearest_34 {Γ : CX} (C : OKC Γ cX7_nearest RX7 (some (.int))) (T : ∀ z ∈ (cx_c Γ).exceptionTable.toList, False) (hn : cx_nL Γ = 9) (hR : cx_fr Γ = 8 ∧ cx_lo Γ = 211) (hin : (cx_meth Γ).name = yX7_nearest.name) : ∀ (a0 : Nat) (x1 : Int32) (t0 : Int32) (s0 : AS), OK Γ 34 [(0, .ref a0), (1, .int x1)] [.int t0] (fX7_nearest_34  a0 x1 t0 s0) s0 := by
  intro a0 x1 t0 s0
  unfold fX7_nearest_34
  refine ok_istore_n C (i := 3) [(3, .int t0), (0, .ref a0), (1, .int x1)] dX7_nearest_34 rfl (by rw [hn]; decide) rfl ?_
  refine ok_aload_n C 1 dX7_nearest_35 rfl ?_
  refine ok_iload_n C 2 dX7_nearest_36 rfl ?_
  refine ok_callV C T [.int x1] (F := fX7_hasQuoin a0 x1) (ctX7_hasQuoin (C.2.2.2.2.2.2.2.2.1) a0 x1) vlX7_238 viX7_hasQuoin rfl rfl (by decide) rfl (by rw [hR.1, hR.2]; decide) (Nat.le_of_ble_eq_true rfl) dX7_nearest_37 (ok_qI fun v1 s2 => ?_)
  refine ok_if_eq C 50 dX7_nearest_40 (by decide) ?_ ?_
  · refine ok_iconst C (v := (-1)) dX7_nearest_50 (by decide) ?_
    refine OK.sub (lv' := [(0, .ref a0), (1, .int x1), (3, .int t0)]) [1, 2, 0] rfl ?_
    exact oX7_nearest_51 C T hn hR hin a0 x1 t0 ((-1)) s2
  · refine ok_aload_n C 1 dX7_nearest_43 rfl ?_
    refine ok_getI C frX7_160_11 dX7_nearest_44 (fun v3 => ?_)
    refine ok_goto C 51 dX7_nearest_47 (by decide) ?_
    refine OK.sub (lv' := [(0, .ref a0), (1, .int x1), (3, .int t0)]) [1, 2, 0] rfl ?_
    exact oX7_nearest_51 C T hn hR hin a0 x1 t0 v3 s2
set_option maxHeartbeats 4000000 in
theorem oX7_nearest {Γ : CX} (C : OKC Γ cX7_nearest RX7 (some (.int))) (T : ∀ z ∈ (cx_c Γ).exceptionTable.toList, False) (hn : cx_nL Γ = 9) (hR : cx_fr Γ = 8 ∧ cx_lo Γ = 211) (hin : (cx_meth Γ).name = yX7_nearest.name) : ∀ (a0 : Nat) (x1 : Int32) (s0 : AS), OK Γ 0 [(0, .ref a0), (1, .int x1)] [] (fX7_nearest a0 x1 s0) s0 := by
  intro a0 x1 s0
  unfold fX7_nearest
  refine ok_aload_n C 0 dX7_nearest_0 rfl ?_
  refine ok_iload_n C 1 dX7_nearest_1 rfl ?_
  refine ok_callV C T [.int x1] (F := fX7_noRow a0 x1) (ctX7_noRow (C.2.2.2.2.2.2.2.2.1) a0 x1) vlX7_335 viX7_noRow rfl rfl (by decide) rfl (by rw [hR.1, hR.2]; decide) (Nat.le_of_ble_eq_true rfl) dX7_nearest_2 (ok_qI fun v1 s2 => ?_)
  refine ok_if_eq C 10 dX7_nearest_5 (by decide) ?_ ?_
  · refine ok_aload_n C 0 dX7_nearest_10 rfl ?_
    refine ok_iload_n C 1 dX7_nearest_11 rfl ?_
    refine ok_callV C T [.int x1] (F := fX7_need a0 x1) (ctX7_need (C.2.2.2.2.2.2.2.2.1) a0 x1) vlX7_292 viX7_need rfl rfl (by decide) rfl (by rw [hR.1, hR.2]; decide) (Nat.le_of_ble_eq_true rfl) dX7_nearest_12 (ok_qI fun v3 s4 => ?_)
    refine ok_istore_n C (i := 2) [(2, .int v3), (0, .ref a0), (1, .int x1)] dX7_nearest_15 rfl (by rw [hn]; decide) rfl ?_
    refine ok_aload_n C 1 dX7_nearest_16 rfl ?_
    refine ok_iload_n C 0 dX7_nearest_17 rfl ?_
    refine ok_callV C T [.int v3] (F := fX7_laysFewest a0 v3) (ctX7_laysFewest (C.2.2.2.2.2.2.2.2.1) a0 v3) vlX7_295 viX7_laysFewest rfl rfl (by decide) rfl (by rw [hR.1, hR.2]; decide) (Nat.le_of_ble_eq_true rfl) dX7_nearest_18 (ok_qV fun s5 => ?_)
    refine ok_aload_n C 1 dX7_nearest_21 rfl ?_
    refine ok_iload_n C 2 dX7_nearest_22 rfl ?_
    refine ok_callV C T [.int x1] (F := fX7_hasQuoin a0 x1) (ctX7_hasQuoin (C.2.2.2.2.2.2.2.2.1) a0 x1) vlX7_238 viX7_hasQuoin rfl rfl (by decide) rfl (by rw [hR.1, hR.2]; decide) (Nat.le_of_ble_eq_true rfl) dX7_nearest_23 (ok_qI fun v6 s7 => ?_)
    refine ok_if_eq C 33 dX7_nearest_26 (by decide) ?_ ?_
    · refine ok_iconst C (v := (-1)) dX7_nearest_33 (by decide) ?_
      refine OK.sub (lv' := [(0, .ref a0), (1, .int x1)]) [1, 2] rfl ?_
      exact oX7_nearest_34 C T hn hR hin a0 x1 ((-1)) s7
    · refine ok_iconst C (v := 0) dX7_nearest_29 (by decide) ?_
      refine ok_goto C 34 dX7_nearest_30 (by decide) ?_
      refine OK.sub (lv' := [(0, .ref a0), (1, .int x1)]) [1, 2] rfl ?_
      exact oX7_nearest_34 C T hn hR hin a0 x1 0 s7
  · refine ok_iconst C (v := 0) dX7_nearest_8 (by decide) ?_
    exact ok_ireturn C dX7_nearest_9
theorem ctX7_nearest {l : Launch} (hl : l.stackTraces = false) {D : va_G} {dA : Nat → ClassId} {B0 : Nat} (a0 : Nat) (x1 : Int32) : Ct l D dA B0 yX7_nearest (.code yX7_nearest cX7_nearest 9 (some (.int)) :: ax_ALL) 8 211 [.ref a0, .int x1] (fX7_nearest a0 x1) :=
  Ct.of hl (by decide +kernel) (Nat.le_of_ble_eq_true rfl) fun Γ C _ _ _ _ e5 e6 e7 T hin => oX7_nearest C T e5 ⟨e6, e7⟩ hin a0 x1 _
/-! ChaseLockerModel.putsAside()V -/
def fX7_putsAside_2  : Nat → Nat → Int32 → AS → Option AR
  | 0, _, _, _ => none
  | n + 1, a0, x1, s0 =>
    if (4112 : Int32) ≤ x1 then (
      some (.inl none, s0))
    else (
      gR s0 a0 11 13 (fun q1 =>
      gR s0 a0 11 12 (fun q2 =>
      aI s0 q2 100 x1 (fun v3 =>
      uI s0 q1 x1 v3 (fun s4 =>
      lt (x1 + 1) (fun v5 =>
      fX7_putsAside_2 n a0 v5 s4))))))
def fX7_putsAside (a0 : Nat) (s0 : AS) : Option AR :=
  fX7_putsAside_2 FU a0 0 s0
set_option maxHeartbeats 4000000 in
theorem oX7_putsAside_2 {Γ : CX} (C : OKC Γ cX7_putsAside RX7 none) (T : ∀ z ∈ (cx_c Γ).exceptionTable.toList, False) (hn : cx_nL Γ = 2) (hR : cx_fr Γ = 1 ∧ cx_lo Γ = 60) (hin : (cx_meth Γ).name = yX7_putsAside.name) : ∀ (n : Nat) (a0 : Nat) (x1 : Int32) (s0 : AS), OK Γ 2 [(0, .ref a0), (1, .int x1)] [] (fX7_putsAside_2 n a0 x1 s0) s0 := by
  intro n
  induction n with
  | zero => intro _ _ s0; exact OK.none
  | succ n ih =>
    intro a0 x1 s0
    rw [fX7_putsAside_2]
    refine ok_iload_n C 1 dX7_putsAside_2 rfl ?_
    refine ok_sipush C (v := 4112) dX7_putsAside_3 (by decide) ?_
    refine ok_icmp_ge C 27 dX7_putsAside_6 (by decide) ?_ ?_
    · exact ok_vreturn C dX7_putsAside_27
    · refine ok_aload_n C 0 dX7_putsAside_9 rfl ?_
      refine ok_getR C frX7_20_11 dX7_putsAside_10 (fun q1 => ?_)
      refine ok_iload_n C 1 dX7_putsAside_13 rfl ?_
      refine ok_aload_n C 0 dX7_putsAside_14 rfl ?_
      refine ok_getR C frX7_17_11 dX7_putsAside_15 (fun q2 => ?_)
      refine ok_iload_n C 1 dX7_putsAside_18 rfl ?_
      refine ok_iald C dX7_putsAside_19 (fun v3 => ?_)
      refine ok_iast C dX7_putsAside_20 (fun s4 _ => ?_)
      refine ok_iincL C 1 (c := 1) (fun v5 => [(1, .int v5), (0, .ref a0)]) dX7_putsAside_21 rfl rfl (by rw [hn]; decide) (fun _ => rfl) (fun v5 => ?_)
      refine ok_goto C 2 dX7_putsAside_24 (by decide) ?_
      refine OK.sub (lv' := [(0, .ref a0), (1, .int v5)]) [1, 0] rfl ?_
      exact ih a0 v5 s4
set_option maxHeartbeats 4000000 in
theorem oX7_putsAside {Γ : CX} (C : OKC Γ cX7_putsAside RX7 none) (T : ∀ z ∈ (cx_c Γ).exceptionTable.toList, False) (hn : cx_nL Γ = 2) (hR : cx_fr Γ = 1 ∧ cx_lo Γ = 60) (hin : (cx_meth Γ).name = yX7_putsAside.name) : ∀ (a0 : Nat) (s0 : AS), OK Γ 0 [(0, .ref a0)] [] (fX7_putsAside a0 s0) s0 := by
  intro a0 s0
  unfold fX7_putsAside
  refine ok_iconst C (v := 0) dX7_putsAside_0 (by decide) ?_
  refine ok_istore_n C (i := 1) [(1, .int 0), (0, .ref a0)] dX7_putsAside_1 rfl (by rw [hn]; decide) rfl ?_
  refine OK.sub (lv' := [(0, .ref a0), (1, .int 0)]) [1, 0] rfl ?_
  exact oX7_putsAside_2 C T hn hR hin FU a0 0 s0
theorem ctX7_putsAside {l : Launch} (hl : l.stackTraces = false) {D : va_G} {dA : Nat → ClassId} {B0 : Nat} (a0 : Nat) : Ct l D dA B0 yX7_putsAside (.code yX7_putsAside cX7_putsAside 2 (none) :: ax_ALL) 1 60 [.ref a0] (fX7_putsAside a0) :=
  Ct.of hl (by decide +kernel) (Nat.le_of_ble_eq_true rfl) fun Γ C _ _ _ _ e5 e6 e7 T hin => oX7_putsAside C T e5 ⟨e6, e7⟩ hin a0 _
/-! ChaseLockerModel.fetchesBack(I)I -/
def fX7_fetchesBack_2  : Nat → Nat → Int32 → Int32 → AS → Option AR
  | 0, _, _, _, _ => none
  | n + 1, a0, x1, x2, s0 =>
    if (4112 : Int32) ≤ x2 then (
      some (.inl (some (.int x1)), s0))
    else (
      gR s0 a0 11 12 (fun q1 =>
      gR s0 a0 11 13 (fun q2 =>
      aI s0 q2 100 x2 (fun v3 =>
      uI s0 q1 x2 v3 (fun s4 =>
      lt (x2 + 1) (fun v5 =>
      fX7_fetchesBack_2 n a0 x1 v5 s4))))))
def fX7_fetchesBack (a0 : Nat) (x1 : Int32) (s0 : AS) : Option AR :=
  fX7_fetchesBack_2 FU a0 x1 0 s0
set_option maxHeartbeats 4000000 in
theorem oX7_fetchesBack_2 {Γ : CX} (C : OKC Γ cX7_fetchesBack RX7 (some (.int))) (T : ∀ z ∈ (cx_c Γ).exceptionTable.toList, False) (hn : cx_nL Γ = 3) (hR : cx_fr Γ = 1 ∧ cx_lo Γ = 60) (hin : (cx_meth Γ).name = yX7_fetchesBack.name) : ∀ (n : Nat) (a0 : Nat) (x1 : Int32) (x2 : Int32) (s0 : AS), OK Γ 2 [(0, .ref a0), (1, .int x1), (2, .int x2)] [] (fX7_fetchesBack_2 n a0 x1 x2 s0) s0 := by
  intro n
  induction n with
  | zero => intro _ _ _ s0; exact OK.none
  | succ n ih =>
    intro a0 x1 x2 s0
    rw [fX7_fetchesBack_2]
    refine ok_iload_n C 2 dX7_fetchesBack_2 rfl ?_
    refine ok_sipush C (v := 4112) dX7_fetchesBack_3 (by decide) ?_
    refine ok_icmp_ge C 27 dX7_fetchesBack_6 (by decide) ?_ ?_
    · refine ok_iload_n C 1 dX7_fetchesBack_27 rfl ?_
      exact ok_ireturn C dX7_fetchesBack_28
    · refine ok_aload_n C 0 dX7_fetchesBack_9 rfl ?_
      refine ok_getR C frX7_17_11 dX7_fetchesBack_10 (fun q1 => ?_)
      refine ok_iload_n C 2 dX7_fetchesBack_13 rfl ?_
      refine ok_aload_n C 0 dX7_fetchesBack_14 rfl ?_
      refine ok_getR C frX7_20_11 dX7_fetchesBack_15 (fun q2 => ?_)
      refine ok_iload_n C 2 dX7_fetchesBack_18 rfl ?_
      refine ok_iald C dX7_fetchesBack_19 (fun v3 => ?_)
      refine ok_iast C dX7_fetchesBack_20 (fun s4 _ => ?_)
      refine ok_iincL C 2 (c := 1) (fun v5 => [(2, .int v5), (0, .ref a0), (1, .int x1)]) dX7_fetchesBack_21 rfl rfl (by rw [hn]; decide) (fun _ => rfl) (fun v5 => ?_)
      refine ok_goto C 2 dX7_fetchesBack_24 (by decide) ?_
      refine OK.sub (lv' := [(0, .ref a0), (1, .int x1), (2, .int v5)]) [1, 2, 0] rfl ?_
      exact ih a0 x1 v5 s4
set_option maxHeartbeats 4000000 in
theorem oX7_fetchesBack {Γ : CX} (C : OKC Γ cX7_fetchesBack RX7 (some (.int))) (T : ∀ z ∈ (cx_c Γ).exceptionTable.toList, False) (hn : cx_nL Γ = 3) (hR : cx_fr Γ = 1 ∧ cx_lo Γ = 60) (hin : (cx_meth Γ).name = yX7_fetchesBack.name) : ∀ (a0 : Nat) (x1 : Int32) (s0 : AS), OK Γ 0 [(0, .ref a0), (1, .int x1)] [] (fX7_fetchesBack a0 x1 s0) s0 := by
  intro a0 x1 s0
  unfold fX7_fetchesBack
  refine ok_iconst C (v := 0) dX7_fetchesBack_0 (by decide) ?_
  refine ok_istore_n C (i := 2) [(2, .int 0), (0, .ref a0), (1, .int x1)] dX7_fetchesBack_1 rfl (by rw [hn]; decide) rfl ?_
  refine OK.sub (lv' := [(0, .ref a0), (1, .int x1), (2, .int 0)]) [1, 2, 0] rfl ?_
  exact oX7_fetchesBack_2 C T hn hR hin FU a0 x1 0 s0
theorem ctX7_fetchesBack {l : Launch} (hl : l.stackTraces = false) {D : va_G} {dA : Nat → ClassId} {B0 : Nat} (a0 : Nat) (x1 : Int32) : Ct l D dA B0 yX7_fetchesBack (.code yX7_fetchesBack cX7_fetchesBack 3 (some (.int)) :: ax_ALL) 1 60 [.ref a0, .int x1] (fX7_fetchesBack a0 x1) :=
  Ct.of hl (by decide +kernel) (Nat.le_of_ble_eq_true rfl) fun Γ C _ _ _ _ e5 e6 e7 T hin => oX7_fetchesBack C T e5 ⟨e6, e7⟩ hin a0 x1 _
/-! ChaseLockerModel.freshChoice(I)I -/
def fX7_freshChoice_40  (t0 : Nat) (t1 : Int32) (s0 : AS) : Option AR :=
  cV s0 t0 11 (fX7_fetchesBack t0 t1 s0) (qI (fun v1 s2 =>
  some (.inl (some (.int v1)), s2)))
def fX7_freshChoice (a0 : Nat) (x1 : Int32) (s0 : AS) : Option AR :=
  cV s0 a0 11 (fX7_noRow a0 x1 s0) (qI (fun v1 s2 =>
  if v1 = 0 then (
    cV s2 a0 11 (fX7_putsAside a0 s2) (qV (fun s3 =>
    cV s3 a0 11 (fX7_empties a0 x1 s3) (qI (fun v4 s5 =>
    cV s5 a0 11 (fX7_chooses a0 x1 s5) (qI (fun v6 s7 =>
    if v6 = 0 then (
      fX7_freshChoice_40 a0 ((-1)) s7)
    else (
      cV s7 a0 11 (fX7_chosenMany a0 0 s7) (qI (fun v8 s9 =>
      fX7_freshChoice_40 a0 v8 s9))))))))))
  else (
    some (.inl (some (.int 0)), s2))))
set_option maxHeartbeats 4000000 in
theorem oX7_freshChoice_40 {Γ : CX} (C : OKC Γ cX7_freshChoice RX7 (some (.int))) (T : ∀ z ∈ (cx_c Γ).exceptionTable.toList, False) (hn : cx_nL Γ = 4) (hR : cx_fr Γ = 9 ∧ cx_lo Γ = 238) (hin : (cx_meth Γ).name = yX7_freshChoice.name) : ∀ (t0 : Nat) (t1 : Int32) (s0 : AS), OK Γ 40 [] [.int t1, .ref t0] (fX7_freshChoice_40  t0 t1 s0) s0 := by
  intro t0 t1 s0
  unfold fX7_freshChoice_40
  refine ok_callV C T [.int t1] (F := fX7_fetchesBack t0 t1) (ctX7_fetchesBack (C.2.2.2.2.2.2.2.2.1) t0 t1) vlX7_356 viX7_fetchesBack rfl rfl (by decide) rfl (by rw [hR.1, hR.2]; decide) (Nat.le_of_ble_eq_true rfl) dX7_freshChoice_40 (ok_qI fun v1 s2 => ?_)
  exact ok_ireturn C dX7_freshChoice_43
set_option maxHeartbeats 4000000 in
theorem oX7_freshChoice {Γ : CX} (C : OKC Γ cX7_freshChoice RX7 (some (.int))) (T : ∀ z ∈ (cx_c Γ).exceptionTable.toList, False) (hn : cx_nL Γ = 4) (hR : cx_fr Γ = 9 ∧ cx_lo Γ = 238) (hin : (cx_meth Γ).name = yX7_freshChoice.name) : ∀ (a0 : Nat) (x1 : Int32) (s0 : AS), OK Γ 0 [(0, .ref a0), (1, .int x1)] [] (fX7_freshChoice a0 x1 s0) s0 := by
  intro a0 x1 s0
  unfold fX7_freshChoice
  refine ok_aload_n C 0 dX7_freshChoice_0 rfl ?_
  refine ok_iload_n C 1 dX7_freshChoice_1 rfl ?_
  refine ok_callV C T [.int x1] (F := fX7_noRow a0 x1) (ctX7_noRow (C.2.2.2.2.2.2.2.2.1) a0 x1) vlX7_335 viX7_noRow rfl rfl (by decide) rfl (by rw [hR.1, hR.2]; decide) (Nat.le_of_ble_eq_true rfl) dX7_freshChoice_2 (ok_qI fun v1 s2 => ?_)
  refine ok_if_eq C 10 dX7_freshChoice_5 (by decide) ?_ ?_
  · refine ok_aload_n C 0 dX7_freshChoice_10 rfl ?_
    refine ok_callV C T [] (F := fX7_putsAside a0) (ctX7_putsAside (C.2.2.2.2.2.2.2.2.1) a0) vlX7_353 viX7_putsAside rfl rfl (by decide) rfl (by rw [hR.1, hR.2]; decide) (Nat.le_of_ble_eq_true rfl) dX7_freshChoice_11 (ok_qV fun s3 => ?_)
    refine ok_aload_n C 0 dX7_freshChoice_14 rfl ?_
    refine ok_iload_n C 1 dX7_freshChoice_15 rfl ?_
    refine ok_callV C T [.int x1] (F := fX7_empties a0 x1) (ctX7_empties (C.2.2.2.2.2.2.2.2.1) a0 x1) vlX7_260 viX7_empties rfl rfl (by decide) rfl (by rw [hR.1, hR.2]; decide) (Nat.le_of_ble_eq_true rfl) dX7_freshChoice_16 (ok_qI fun v4 s5 => ?_)
    refine ok_istore_n C (i := 2) [(2, .int v4), (0, .ref a0), (1, .int x1)] dX7_freshChoice_19 rfl (by rw [hn]; decide) rfl ?_
    refine ok_aload_n C 1 dX7_freshChoice_20 rfl ?_
    refine ok_iload_n C 2 dX7_freshChoice_21 rfl ?_
    refine ok_callV C T [.int x1] (F := fX7_chooses a0 x1) (ctX7_chooses (C.2.2.2.2.2.2.2.2.1) a0 x1) vlX7_311 viX7_chooses rfl rfl (by decide) rfl (by rw [hR.1, hR.2]; decide) (Nat.le_of_ble_eq_true rfl) dX7_freshChoice_22 (ok_qI fun v6 s7 => ?_)
    refine ok_istore_n C (i := 3) [(3, .int v6), (2, .int v4), (0, .ref a0), (1, .int x1)] dX7_freshChoice_25 rfl (by rw [hn]; decide) rfl ?_
    refine ok_aload_n C 2 dX7_freshChoice_26 rfl ?_
    refine ok_iload_n C 0 dX7_freshChoice_27 rfl ?_
    refine ok_if_eq C 39 dX7_freshChoice_28 (by decide) ?_ ?_
    · refine ok_iconst C (v := (-1)) dX7_freshChoice_39 (by decide) ?_
      refine OK.sub (lv' := []) [] rfl ?_
      exact oX7_freshChoice_40 C T hn hR hin a0 ((-1)) s7
    · refine ok_aload_n C 2 dX7_freshChoice_31 rfl ?_
      refine ok_iconst C (v := 0) dX7_freshChoice_32 (by decide) ?_
      refine ok_callV C T [.int 0] (F := fX7_chosenMany a0 0) (ctX7_chosenMany (C.2.2.2.2.2.2.2.2.1) a0 0) vlX7_344 viX7_chosenMany rfl rfl (by decide) rfl (by rw [hR.1, hR.2]; decide) (Nat.le_of_ble_eq_true rfl) dX7_freshChoice_33 (ok_qI fun v8 s9 => ?_)
      refine ok_goto C 40 dX7_freshChoice_36 (by decide) ?_
      refine OK.sub (lv' := []) [] rfl ?_
      exact oX7_freshChoice_40 C T hn hR hin a0 v8 s9
  · refine ok_iconst C (v := 0) dX7_freshChoice_8 (by decide) ?_
    exact ok_ireturn C dX7_freshChoice_9
theorem ctX7_freshChoice {l : Launch} (hl : l.stackTraces = false) {D : va_G} {dA : Nat → ClassId} {B0 : Nat} (a0 : Nat) (x1 : Int32) : Ct l D dA B0 yX7_freshChoice (.code yX7_freshChoice cX7_freshChoice 4 (some (.int)) :: ax_ALL) 9 238 [.ref a0, .int x1] (fX7_freshChoice a0 x1) :=
  Ct.of hl (by decide +kernel) (Nat.le_of_ble_eq_true rfl) fun Γ C _ _ _ _ e5 e6 e7 T hin => oX7_freshChoice C T e5 ⟨e6, e7⟩ hin a0 x1 _
/-! ChaseLockerModel.fillable(I)I -/
def fX7_fillable_66 (r43 : Nat → Int32 → Int32 → Int32 → AS → Option AR) (a0 : Nat) (x1 : Int32) (x3 : Int32) (t0 : Int32) (t1 : Int32) (s0 : AS) : Option AR :=
  cS s0 (fX7_flag t1 s0) (qI (fun v1 s2 =>
  lt (t0 + v1) (fun v3 =>
  lt (x3 + 1) (fun v4 =>
  r43 a0 x1 v3 v4 s2))))
def fX7_fillable_43  : Nat → Nat → Int32 → Int32 → Int32 → AS → Option AR
  | 0, _, _, _, _, _ => none
  | n + 1, a0, x1, x2, x3, s0 =>
    if x1 < x3 then (
      some (.inl (some (.int x2)), s0))
    else (
      gR s0 a0 11 34 (fun q1 =>
      aI s0 q1 100 x3 (fun v2 =>
      if (1000000 : Int32) ≤ v2 then (
        fX7_fillable_66 (fX7_fillable_43 n) a0 x1 x3 x2 0 s0)
      else (
        fX7_fillable_66 (fX7_fillable_43 n) a0 x1 x3 x2 1 s0))))
def fX7_fillable_25  (a0 : Nat) (x1 : Int32) (t0 : Nat) (t1 : Int32) (s0 : AS) : Option AR :=
  cV s0 t0 11 (fX7_refuse t0 t1 2 s0) (qI (fun v1 s2 =>
  if v1 = 0 then (
    cV s2 a0 11 (fX7_laysFewest a0 x1 s2) (qV (fun s3 =>
    fX7_fillable_43 FU a0 x1 0 0 s3)))
  else (
    some (.inl (some (.int 0)), s2))))
def fX7_fillable (a0 : Nat) (x1 : Int32) (s0 : AS) : Option AR :=
  cV s0 a0 11 (fX7_notLoaded a0 s0) (qI (fun v1 s2 =>
  if v1 = 0 then (
    gI s2 a0 11 2 (fun v3 =>
    cS s2 (fX7_in x1 0 v3 s2) (qI (fun v4 s5 =>
    if v4 = 0 then (
      fX7_fillable_25 a0 x1 a0 1 s5)
    else (
      fX7_fillable_25 a0 x1 a0 0 s5)))))
  else (
    some (.inl (some (.int 0)), s2))))
set_option maxHeartbeats 4000000 in
theorem oX7_fillable_66 {Γ : CX} (C : OKC Γ cX7_fillable RX7 (some (.int))) (T : ∀ z ∈ (cx_c Γ).exceptionTable.toList, False) (hn : cx_nL Γ = 4) (hR : cx_fr Γ = 5 ∧ cx_lo Γ = 149) (hin : (cx_meth Γ).name = yX7_fillable.name) {r43 : Nat → Int32 → Int32 → Int32 → AS → Option AR} (h43 : ∀ (a0 : Nat) (x1 : Int32) (x2 : Int32) (x3 : Int32) (s0 : AS), OK Γ 43 [(0, .ref a0), (1, .int x1), (2, .int x2), (3, .int x3)] [] (r43 a0 x1 x2 x3 s0) s0) : ∀ (a0 : Nat) (x1 : Int32) (x3 : Int32) (t0 : Int32) (t1 : Int32) (s0 : AS), OK Γ 66 [(0, .ref a0), (1, .int x1), (3, .int x3)] [.int t1, .int t0] (fX7_fillable_66 r43 a0 x1 x3 t0 t1 s0) s0 := by
  intro a0 x1 x3 t0 t1 s0
  unfold fX7_fillable_66
  refine ok_callS C T [.int t1] (F := fX7_flag t1) (ctX7_flag (C.2.2.2.2.2.2.2.2.1) t1) vlX7_250 kw_882 rfl (by rw [hR.1, hR.2]; decide) (Nat.le_of_ble_eq_true rfl) dX7_fillable_66 (ok_qI fun v1 s2 => ?_)
  refine ok_iadd C dX7_fillable_69 ?_
  refine ok_lt (fun v3 => ?_)
  refine ok_istore_n C (i := 2) [(2, .int v3), (0, .ref a0), (1, .int x1), (3, .int x3)] dX7_fillable_70 rfl (by rw [hn]; decide) rfl ?_
  refine ok_iincL C 3 (c := 1) (fun v4 => [(3, .int v4), (2, .int v3), (0, .ref a0), (1, .int x1)]) dX7_fillable_71 rfl rfl (by rw [hn]; decide) (fun _ => rfl) (fun v4 => ?_)
  refine ok_goto C 43 dX7_fillable_74 (by decide) ?_
  refine OK.sub (lv' := [(0, .ref a0), (1, .int x1), (2, .int v3), (3, .int v4)]) [2, 3, 1, 0] rfl ?_
  exact h43 a0 x1 v3 v4 s2
set_option maxHeartbeats 4000000 in
theorem oX7_fillable_43 {Γ : CX} (C : OKC Γ cX7_fillable RX7 (some (.int))) (T : ∀ z ∈ (cx_c Γ).exceptionTable.toList, False) (hn : cx_nL Γ = 4) (hR : cx_fr Γ = 5 ∧ cx_lo Γ = 149) (hin : (cx_meth Γ).name = yX7_fillable.name) : ∀ (n : Nat) (a0 : Nat) (x1 : Int32) (x2 : Int32) (x3 : Int32) (s0 : AS), OK Γ 43 [(0, .ref a0), (1, .int x1), (2, .int x2), (3, .int x3)] [] (fX7_fillable_43 n a0 x1 x2 x3 s0) s0 := by
  intro n
  induction n with
  | zero => intro _ _ _ _ s0; exact OK.none
  | succ n ih =>
    intro a0 x1 x2 x3 s0
    rw [fX7_fillable_43]
    refine ok_iload_n C 3 dX7_fillable_43 rfl ?_
    refine ok_iload_n C 1 dX7_fillable_44 rfl ?_
    refine ok_icmp_gt C 77 dX7_fillable_45 (by decide) ?_ ?_
    · refine ok_iload_n C 2 dX7_fillable_77 rfl ?_
      exact ok_ireturn C dX7_fillable_78
    · refine ok_iload_n C 2 dX7_fillable_48 rfl ?_
      refine ok_aload_n C 0 dX7_fillable_49 rfl ?_
      refine ok_getR C frX7_52_11 dX7_fillable_50 (fun q1 => ?_)
      refine ok_iload_n C 3 dX7_fillable_53 rfl ?_
      refine ok_iald C dX7_fillable_54 (fun v2 => ?_)
      refine ok_ldcw C (v := 1000000) kw_915 dX7_fillable_55 ?_
      refine ok_icmp_ge C 65 dX7_fillable_58 (by decide) ?_ ?_
      · refine ok_iconst C (v := 0) dX7_fillable_65 (by decide) ?_
        refine OK.sub (lv' := [(0, .ref a0), (1, .int x1), (3, .int x3)]) [0, 1, 3] rfl ?_
        exact oX7_fillable_66 C T hn hR hin ih a0 x1 x3 x2 0 s0
      · refine ok_iconst C (v := 1) dX7_fillable_61 (by decide) ?_
        refine ok_goto C 66 dX7_fillable_62 (by decide) ?_
        refine OK.sub (lv' := [(0, .ref a0), (1, .int x1), (3, .int x3)]) [0, 1, 3] rfl ?_
        exact oX7_fillable_66 C T hn hR hin ih a0 x1 x3 x2 1 s0
set_option maxHeartbeats 4000000 in
theorem oX7_fillable_25 {Γ : CX} (C : OKC Γ cX7_fillable RX7 (some (.int))) (T : ∀ z ∈ (cx_c Γ).exceptionTable.toList, False) (hn : cx_nL Γ = 4) (hR : cx_fr Γ = 5 ∧ cx_lo Γ = 149) (hin : (cx_meth Γ).name = yX7_fillable.name) : ∀ (a0 : Nat) (x1 : Int32) (t0 : Nat) (t1 : Int32) (s0 : AS), OK Γ 25 [(0, .ref a0), (1, .int x1)] [.int t1, .ref t0] (fX7_fillable_25  a0 x1 t0 t1 s0) s0 := by
  intro a0 x1 t0 t1 s0
  unfold fX7_fillable_25
  refine ok_iconst C (v := 2) dX7_fillable_25 (by decide) ?_
  refine ok_callV C T [.int t1, .int 2] (F := fX7_refuse t0 t1 2) (ctX7_refuse (C.2.2.2.2.2.2.2.2.1) t0 t1 2) vlX7_74 viX7_refuse rfl rfl (by decide) rfl (by rw [hR.1, hR.2]; decide) (Nat.le_of_ble_eq_true rfl) dX7_fillable_26 (ok_qI fun v1 s2 => ?_)
  refine ok_if_eq C 34 dX7_fillable_29 (by decide) ?_ ?_
  · refine ok_aload_n C 0 dX7_fillable_34 rfl ?_
    refine ok_iload_n C 1 dX7_fillable_35 rfl ?_
    refine ok_callV C T [.int x1] (F := fX7_laysFewest a0 x1) (ctX7_laysFewest (C.2.2.2.2.2.2.2.2.1) a0 x1) vlX7_295 viX7_laysFewest rfl rfl (by decide) rfl (by rw [hR.1, hR.2]; decide) (Nat.le_of_ble_eq_true rfl) dX7_fillable_36 (ok_qV fun s3 => ?_)
    refine ok_iconst C (v := 0) dX7_fillable_39 (by decide) ?_
    refine ok_istore_n C (i := 2) [(2, .int 0), (0, .ref a0), (1, .int x1)] dX7_fillable_40 rfl (by rw [hn]; decide) rfl ?_
    refine ok_iconst C (v := 0) dX7_fillable_41 (by decide) ?_
    refine ok_istore_n C (i := 3) [(3, .int 0), (2, .int 0), (0, .ref a0), (1, .int x1)] dX7_fillable_42 rfl (by rw [hn]; decide) rfl ?_
    refine OK.sub (lv' := [(0, .ref a0), (1, .int x1), (2, .int 0), (3, .int 0)]) [2, 3, 1, 0] rfl ?_
    exact oX7_fillable_43 C T hn hR hin FU a0 x1 0 0 s3
  · refine ok_iconst C (v := 0) dX7_fillable_32 (by decide) ?_
    exact ok_ireturn C dX7_fillable_33
set_option maxHeartbeats 4000000 in
theorem oX7_fillable {Γ : CX} (C : OKC Γ cX7_fillable RX7 (some (.int))) (T : ∀ z ∈ (cx_c Γ).exceptionTable.toList, False) (hn : cx_nL Γ = 4) (hR : cx_fr Γ = 5 ∧ cx_lo Γ = 149) (hin : (cx_meth Γ).name = yX7_fillable.name) : ∀ (a0 : Nat) (x1 : Int32) (s0 : AS), OK Γ 0 [(0, .ref a0), (1, .int x1)] [] (fX7_fillable a0 x1 s0) s0 := by
  intro a0 x1 s0
  unfold fX7_fillable
  refine ok_aload_n C 0 dX7_fillable_0 rfl ?_
  refine ok_callV C T [] (F := fX7_notLoaded a0) (ctX7_notLoaded (C.2.2.2.2.2.2.2.2.1) a0) vlX7_320 viX7_notLoaded rfl rfl (by decide) rfl (by rw [hR.1, hR.2]; decide) (Nat.le_of_ble_eq_true rfl) dX7_fillable_1 (ok_qI fun v1 s2 => ?_)
  refine ok_if_ne C 32 dX7_fillable_4 (by decide) ?_ ?_
  · refine ok_iconst C (v := 0) dX7_fillable_32 (by decide) ?_
    exact ok_ireturn C dX7_fillable_33
  · refine ok_aload_n C 0 dX7_fillable_7 rfl ?_
    refine ok_iload_n C 1 dX7_fillable_8 rfl ?_
    refine ok_iconst C (v := 0) dX7_fillable_9 (by decide) ?_
    refine ok_aload_n C 0 dX7_fillable_10 rfl ?_
    refine ok_getI C frX7_151_11 dX7_fillable_11 (fun v3 => ?_)
    refine ok_callS C T [.int x1, .int 0, .int v3] (F := fX7_in x1 0 v3) (ctX7_in (C.2.2.2.2.2.2.2.2.1) x1 0 v3) vlX7_143 kw_793 rfl (by rw [hR.1, hR.2]; decide) (Nat.le_of_ble_eq_true rfl) dX7_fillable_14 (ok_qI fun v4 s5 => ?_)
    refine ok_if_ne C 24 dX7_fillable_17 (by decide) ?_ ?_
    · refine ok_iconst C (v := 0) dX7_fillable_24 (by decide) ?_
      exact oX7_fillable_25 C T hn hR hin a0 x1 a0 0 s5
    · refine ok_iconst C (v := 1) dX7_fillable_20 (by decide) ?_
      refine ok_goto C 25 dX7_fillable_21 (by decide) ?_
      exact oX7_fillable_25 C T hn hR hin a0 x1 a0 1 s5
theorem ctX7_fillable {l : Launch} (hl : l.stackTraces = false) {D : va_G} {dA : Nat → ClassId} {B0 : Nat} (a0 : Nat) (x1 : Int32) : Ct l D dA B0 yX7_fillable (.code yX7_fillable cX7_fillable 4 (some (.int)) :: ax_ALL) 5 149 [.ref a0, .int x1] (fX7_fillable a0 x1) :=
  Ct.of hl (by decide +kernel) (Nat.le_of_ble_eq_true rfl) fun Γ C _ _ _ _ e5 e6 e7 T hin => oX7_fillable C T e5 ⟨e6, e7⟩ hin a0 x1 _
/-! ChaseLockerModel.fewestIf(II)I -/
def fX7_fewestIf_52  (t0 : Nat) (t1 : Int32) (s0 : AS) : Option AR :=
  cV s0 t0 11 (fX7_fetchesBack t0 t1 s0) (qI (fun v1 s2 =>
  some (.inl (some (.int v1)), s2)))
def fX7_fewestIf (a0 : Nat) (x1 : Int32) (x2 : Int32) (s0 : AS) : Option AR :=
  cV s0 a0 11 (fX7_of a0 x1 0 s0) (qI (fun v1 s2 =>
  if v1 = (6 : Int32) then (
    some (.inl (some (.int ((-1)))), s2))
  else (
    cV s2 a0 11 (fX7_gap a0 x1 s2) (qI (fun v3 s4 =>
    if x2 ≤ v3 then (
      cV s4 a0 11 (fX7_putsAside a0 s4) (qV (fun s5 =>
      cV s5 a0 11 (fX7_adds a0 x1 x2 s5) (qV (fun s6 =>
      cV s6 a0 11 (fX7_chooses a0 x1 s6) (qI (fun v7 s8 =>
      if v7 = 0 then (
        fX7_fewestIf_52 a0 ((-1)) s8)
      else (
        cV s8 a0 11 (fX7_chosenMany a0 0 s8) (qI (fun v9 s10 =>
        fX7_fewestIf_52 a0 v9 s10))))))))))
    else (
      some (.inl (some (.int ((-1)))), s4)))))))
set_option maxHeartbeats 4000000 in
theorem oX7_fewestIf_52 {Γ : CX} (C : OKC Γ cX7_fewestIf RX7 (some (.int))) (T : ∀ z ∈ (cx_c Γ).exceptionTable.toList, False) (hn : cx_nL Γ = 4) (hR : cx_fr Γ = 9 ∧ cx_lo Γ = 238) (hin : (cx_meth Γ).name = yX7_fewestIf.name) : ∀ (t0 : Nat) (t1 : Int32) (s0 : AS), OK Γ 52 [] [.int t1, .ref t0] (fX7_fewestIf_52  t0 t1 s0) s0 := by
  intro t0 t1 s0
  unfold fX7_fewestIf_52
  refine ok_callV C T [.int t1] (F := fX7_fetchesBack t0 t1) (ctX7_fetchesBack (C.2.2.2.2.2.2.2.2.1) t0 t1) vlX7_356 viX7_fetchesBack rfl rfl (by decide) rfl (by rw [hR.1, hR.2]; decide) (Nat.le_of_ble_eq_true rfl) dX7_fewestIf_52 (ok_qI fun v1 s2 => ?_)
  exact ok_ireturn C dX7_fewestIf_55
set_option maxHeartbeats 4000000 in
theorem oX7_fewestIf {Γ : CX} (C : OKC Γ cX7_fewestIf RX7 (some (.int))) (T : ∀ z ∈ (cx_c Γ).exceptionTable.toList, False) (hn : cx_nL Γ = 4) (hR : cx_fr Γ = 9 ∧ cx_lo Γ = 238) (hin : (cx_meth Γ).name = yX7_fewestIf.name) : ∀ (a0 : Nat) (x1 : Int32) (x2 : Int32) (s0 : AS), OK Γ 0 [(0, .ref a0), (1, .int x1), (2, .int x2)] [] (fX7_fewestIf a0 x1 x2 s0) s0 := by
  intro a0 x1 x2 s0
  unfold fX7_fewestIf
  refine ok_aload_n C 0 dX7_fewestIf_0 rfl ?_
  refine ok_iload_n C 1 dX7_fewestIf_1 rfl ?_
  refine ok_iconst C (v := 0) dX7_fewestIf_2 (by decide) ?_
  refine ok_callV C T [.int x1, .int 0] (F := fX7_of a0 x1 0) (ctX7_of (C.2.2.2.2.2.2.2.2.1) a0 x1 0) vlX7_189 viX7_of rfl rfl (by decide) rfl (by rw [hR.1, hR.2]; decide) (Nat.le_of_ble_eq_true rfl) dX7_fewestIf_3 (ok_qI fun v1 s2 => ?_)
  refine ok_bipush C (v := 6) dX7_fewestIf_6 (by decide) ?_
  refine ok_icmp_eq C 20 dX7_fewestIf_8 (by decide) ?_ ?_
  · refine ok_iconst C (v := (-1)) dX7_fewestIf_20 (by decide) ?_
    exact ok_ireturn C dX7_fewestIf_21
  · refine ok_aload_n C 0 dX7_fewestIf_11 rfl ?_
    refine ok_iload_n C 1 dX7_fewestIf_12 rfl ?_
    refine ok_callV C T [.int x1] (F := fX7_gap a0 x1) (ctX7_gap (C.2.2.2.2.2.2.2.2.1) a0 x1) vlX7_192 viX7_gap rfl rfl (by decide) rfl (by rw [hR.1, hR.2]; decide) (Nat.le_of_ble_eq_true rfl) dX7_fewestIf_13 (ok_qI fun v3 s4 => ?_)
    refine ok_iload_n C 2 dX7_fewestIf_16 rfl ?_
    refine ok_icmp_ge C 22 dX7_fewestIf_17 (by decide) ?_ ?_
    · refine ok_aload_n C 0 dX7_fewestIf_22 rfl ?_
      refine ok_callV C T [] (F := fX7_putsAside a0) (ctX7_putsAside (C.2.2.2.2.2.2.2.2.1) a0) vlX7_353 viX7_putsAside rfl rfl (by decide) rfl (by rw [hR.1, hR.2]; decide) (Nat.le_of_ble_eq_true rfl) dX7_fewestIf_23 (ok_qV fun s5 => ?_)
      refine ok_aload_n C 0 dX7_fewestIf_26 rfl ?_
      refine ok_iload_n C 1 dX7_fewestIf_27 rfl ?_
      refine ok_iload_n C 2 dX7_fewestIf_28 rfl ?_
      refine ok_callV C T [.int x1, .int x2] (F := fX7_adds a0 x1 x2) (ctX7_adds (C.2.2.2.2.2.2.2.2.1) a0 x1 x2) vlX7_195 viX7_adds rfl rfl (by decide) rfl (by rw [hR.1, hR.2]; decide) (Nat.le_of_ble_eq_true rfl) dX7_fewestIf_29 (ok_qV fun s6 => ?_)
      refine ok_aload_n C 0 dX7_fewestIf_32 rfl ?_
      refine ok_iload_n C 1 dX7_fewestIf_33 rfl ?_
      refine ok_callV C T [.int x1] (F := fX7_chooses a0 x1) (ctX7_chooses (C.2.2.2.2.2.2.2.2.1) a0 x1) vlX7_311 viX7_chooses rfl rfl (by decide) rfl (by rw [hR.1, hR.2]; decide) (Nat.le_of_ble_eq_true rfl) dX7_fewestIf_34 (ok_qI fun v7 s8 => ?_)
      refine ok_istore_n C (i := 3) [(3, .int v7), (0, .ref a0), (1, .int x1), (2, .int x2)] dX7_fewestIf_37 rfl (by rw [hn]; decide) rfl ?_
      refine ok_aload_n C 1 dX7_fewestIf_38 rfl ?_
      refine ok_iload_n C 0 dX7_fewestIf_39 rfl ?_
      refine ok_if_eq C 51 dX7_fewestIf_40 (by decide) ?_ ?_
      · refine ok_iconst C (v := (-1)) dX7_fewestIf_51 (by decide) ?_
        refine OK.sub (lv' := []) [] rfl ?_
        exact oX7_fewestIf_52 C T hn hR hin a0 ((-1)) s8
      · refine ok_aload_n C 1 dX7_fewestIf_43 rfl ?_
        refine ok_iconst C (v := 0) dX7_fewestIf_44 (by decide) ?_
        refine ok_callV C T [.int 0] (F := fX7_chosenMany a0 0) (ctX7_chosenMany (C.2.2.2.2.2.2.2.2.1) a0 0) vlX7_344 viX7_chosenMany rfl rfl (by decide) rfl (by rw [hR.1, hR.2]; decide) (Nat.le_of_ble_eq_true rfl) dX7_fewestIf_45 (ok_qI fun v9 s10 => ?_)
        refine ok_goto C 52 dX7_fewestIf_48 (by decide) ?_
        refine OK.sub (lv' := []) [] rfl ?_
        exact oX7_fewestIf_52 C T hn hR hin a0 v9 s10
    · refine ok_iconst C (v := (-1)) dX7_fewestIf_20 (by decide) ?_
      exact ok_ireturn C dX7_fewestIf_21
theorem ctX7_fewestIf {l : Launch} (hl : l.stackTraces = false) {D : va_G} {dA : Nat → ClassId} {B0 : Nat} (a0 : Nat) (x1 : Int32) (x2 : Int32) : Ct l D dA B0 yX7_fewestIf (.code yX7_fewestIf cX7_fewestIf 4 (some (.int)) :: ax_ALL) 9 238 [.ref a0, .int x1, .int x2] (fX7_fewestIf a0 x1 x2) :=
  Ct.of hl (by decide +kernel) (Nat.le_of_ble_eq_true rfl) fun Γ C _ _ _ _ e5 e6 e7 T hin => oX7_fewestIf C T e5 ⟨e6, e7⟩ hin a0 x1 x2 _
/-! ChaseLockerModel.fewestAt(II)I -/
def fX7_fewestAt_25  (a0 : Nat) (x1 : Int32) (x2 : Int32) (t0 : Nat) (t1 : Int32) (s0 : AS) : Option AR :=
  cV s0 t0 11 (fX7_refuse t0 t1 3 s0) (qI (fun v1 s2 =>
  if v1 = 0 then (
    cV s2 a0 11 (fX7_fewestIf a0 x1 x2 s2) (qI (fun v3 s4 =>
    some (.inl (some (.int v3)), s4))))
  else (
    some (.inl (some (.int 0)), s2))))
def fX7_fewestAt (a0 : Nat) (x1 : Int32) (x2 : Int32) (s0 : AS) : Option AR :=
  cV s0 a0 11 (fX7_noRow a0 x1 s0) (qI (fun v1 s2 =>
  if v1 = 0 then (
    cS s2 (fX7_in x2 1 200 s2) (qI (fun v3 s4 =>
    if v3 = 0 then (
      fX7_fewestAt_25 a0 x1 x2 a0 1 s4)
    else (
      fX7_fewestAt_25 a0 x1 x2 a0 0 s4))))
  else (
    some (.inl (some (.int 0)), s2))))
set_option maxHeartbeats 4000000 in
theorem oX7_fewestAt_25 {Γ : CX} (C : OKC Γ cX7_fewestAt RX7 (some (.int))) (T : ∀ z ∈ (cx_c Γ).exceptionTable.toList, False) (hn : cx_nL Γ = 3) (hR : cx_fr Γ = 10 ∧ cx_lo Γ = 261) (hin : (cx_meth Γ).name = yX7_fewestAt.name) : ∀ (a0 : Nat) (x1 : Int32) (x2 : Int32) (t0 : Nat) (t1 : Int32) (s0 : AS), OK Γ 25 [(0, .ref a0), (1, .int x1), (2, .int x2)] [.int t1, .ref t0] (fX7_fewestAt_25  a0 x1 x2 t0 t1 s0) s0 := by
  intro a0 x1 x2 t0 t1 s0
  unfold fX7_fewestAt_25
  refine ok_iconst C (v := 3) dX7_fewestAt_25 (by decide) ?_
  refine ok_callV C T [.int t1, .int 3] (F := fX7_refuse t0 t1 3) (ctX7_refuse (C.2.2.2.2.2.2.2.2.1) t0 t1 3) vlX7_74 viX7_refuse rfl rfl (by decide) rfl (by rw [hR.1, hR.2]; decide) (Nat.le_of_ble_eq_true rfl) dX7_fewestAt_26 (ok_qI fun v1 s2 => ?_)
  refine ok_if_eq C 36 dX7_fewestAt_29 (by decide) ?_ ?_
  · refine ok_aload_n C 0 dX7_fewestAt_36 rfl ?_
    refine ok_iload_n C 1 dX7_fewestAt_37 rfl ?_
    refine ok_iload_n C 2 dX7_fewestAt_38 rfl ?_
    refine ok_callV C T [.int x1, .int x2] (F := fX7_fewestIf a0 x1 x2) (ctX7_fewestIf (C.2.2.2.2.2.2.2.2.1) a0 x1 x2) vlX7_359 viX7_fewestIf rfl rfl (by decide) rfl (by rw [hR.1, hR.2]; decide) (Nat.le_of_ble_eq_true rfl) dX7_fewestAt_39 (ok_qI fun v3 s4 => ?_)
    exact ok_ireturn C dX7_fewestAt_42
  · refine ok_iconst C (v := 0) dX7_fewestAt_32 (by decide) ?_
    refine ok_goto C 42 dX7_fewestAt_33 (by decide) ?_
    exact ok_ireturn C dX7_fewestAt_42
set_option maxHeartbeats 4000000 in
theorem oX7_fewestAt {Γ : CX} (C : OKC Γ cX7_fewestAt RX7 (some (.int))) (T : ∀ z ∈ (cx_c Γ).exceptionTable.toList, False) (hn : cx_nL Γ = 3) (hR : cx_fr Γ = 10 ∧ cx_lo Γ = 261) (hin : (cx_meth Γ).name = yX7_fewestAt.name) : ∀ (a0 : Nat) (x1 : Int32) (x2 : Int32) (s0 : AS), OK Γ 0 [(0, .ref a0), (1, .int x1), (2, .int x2)] [] (fX7_fewestAt a0 x1 x2 s0) s0 := by
  intro a0 x1 x2 s0
  unfold fX7_fewestAt
  refine ok_aload_n C 0 dX7_fewestAt_0 rfl ?_
  refine ok_iload_n C 1 dX7_fewestAt_1 rfl ?_
  refine ok_callV C T [.int x1] (F := fX7_noRow a0 x1) (ctX7_noRow (C.2.2.2.2.2.2.2.2.1) a0 x1) vlX7_335 viX7_noRow rfl rfl (by decide) rfl (by rw [hR.1, hR.2]; decide) (Nat.le_of_ble_eq_true rfl) dX7_fewestAt_2 (ok_qI fun v1 s2 => ?_)
  refine ok_if_ne C 32 dX7_fewestAt_5 (by decide) ?_ ?_
  · refine ok_iconst C (v := 0) dX7_fewestAt_32 (by decide) ?_
    refine ok_goto C 42 dX7_fewestAt_33 (by decide) ?_
    exact ok_ireturn C dX7_fewestAt_42
  · refine ok_aload_n C 0 dX7_fewestAt_8 rfl ?_
    refine ok_iload_n C 2 dX7_fewestAt_9 rfl ?_
    refine ok_iconst C (v := 1) dX7_fewestAt_10 (by decide) ?_
    refine ok_sipush C (v := 200) dX7_fewestAt_11 (by decide) ?_
    refine ok_callS C T [.int x2, .int 1, .int 200] (F := fX7_in x2 1 200) (ctX7_in (C.2.2.2.2.2.2.2.2.1) x2 1 200) vlX7_143 kw_793 rfl (by rw [hR.1, hR.2]; decide) (Nat.le_of_ble_eq_true rfl) dX7_fewestAt_14 (ok_qI fun v3 s4 => ?_)
    refine ok_if_ne C 24 dX7_fewestAt_17 (by decide) ?_ ?_
    · refine ok_iconst C (v := 0) dX7_fewestAt_24 (by decide) ?_
      exact oX7_fewestAt_25 C T hn hR hin a0 x1 x2 a0 0 s4
    · refine ok_iconst C (v := 1) dX7_fewestAt_20 (by decide) ?_
      refine ok_goto C 25 dX7_fewestAt_21 (by decide) ?_
      exact oX7_fewestAt_25 C T hn hR hin a0 x1 x2 a0 1 s4
theorem ctX7_fewestAt {l : Launch} (hl : l.stackTraces = false) {D : va_G} {dA : Nat → ClassId} {B0 : Nat} (a0 : Nat) (x1 : Int32) (x2 : Int32) : Ct l D dA B0 yX7_fewestAt (.code yX7_fewestAt cX7_fewestAt 3 (some (.int)) :: ax_ALL) 10 261 [.ref a0, .int x1, .int x2] (fX7_fewestAt a0 x1 x2) :=
  Ct.of hl (by decide +kernel) (Nat.le_of_ble_eq_true rfl) fun Γ C _ _ _ _ e5 e6 e7 T hin => oX7_fewestAt C T e5 ⟨e6, e7⟩ hin a0 x1 x2 _
/-! ChaseLockerModel.rowFor(I)I -/
def fX7_rowFor_78 (r42 : Nat → Int32 → Int32 → Int32 → Int32 → AS → Option AR) (a0 : Nat) (x1 : Int32) (x2 : Int32) (x3 : Int32) (x4 : Int32) (s0 : AS) : Option AR :=
  lt (x4 + 1) (fun v1 =>
  r42 a0 x1 x2 x3 v1 s0)
def fX7_rowFor_42  : Nat → Nat → Int32 → Int32 → Int32 → Int32 → AS → Option AR
  | 0, _, _, _, _, _, _ => none
  | n + 1, a0, x1, x2, x3, x4, s0 =>
    gI s0 a0 11 3 (fun v1 =>
    if v1 ≤ x4 then (
      some (.inl (some (.int x2)), s0))
    else (
      cV s0 a0 11 (fX7_fewestIf a0 x4 x1 s0) (qI (fun v2 s3 =>
      if v2 = (-1 : Int32) then (
        fX7_rowFor_78 (fX7_rowFor_42 n) a0 x1 x2 x3 x4 s3)
      else (
        if x3 ≤ v2 then (
          fX7_rowFor_78 (fX7_rowFor_42 n) a0 x1 x2 x3 x4 s3)
        else (
          fX7_rowFor_78 (fX7_rowFor_42 n) a0 x1 x4 v2 x4 s3))))))
def fX7_rowFor_24  (a0 : Nat) (x1 : Int32) (t0 : Nat) (t1 : Int32) (s0 : AS) : Option AR :=
  cV s0 t0 11 (fX7_refuse t0 t1 2 s0) (qI (fun v1 s2 =>
  if v1 = 0 then (
    lt ((-1)) (fun v3 =>
    fX7_rowFor_42 FU a0 x1 v3 1000000 0 s2))
  else (
    some (.inl (some (.int 0)), s2))))
def fX7_rowFor (a0 : Nat) (x1 : Int32) (s0 : AS) : Option AR :=
  cV s0 a0 11 (fX7_notLoaded a0 s0) (qI (fun v1 s2 =>
  if v1 = 0 then (
    cS s2 (fX7_in x1 1 200 s2) (qI (fun v3 s4 =>
    if v3 = 0 then (
      fX7_rowFor_24 a0 x1 a0 1 s4)
    else (
      fX7_rowFor_24 a0 x1 a0 0 s4))))
  else (
    some (.inl (some (.int 0)), s2))))
set_option maxHeartbeats 4000000 in
theorem oX7_rowFor_78 {Γ : CX} (C : OKC Γ cX7_rowFor RX7 (some (.int))) (T : ∀ z ∈ (cx_c Γ).exceptionTable.toList, False) (hn : cx_nL Γ = 6) (hR : cx_fr Γ = 10 ∧ cx_lo Γ = 261) (hin : (cx_meth Γ).name = yX7_rowFor.name) {r42 : Nat → Int32 → Int32 → Int32 → Int32 → AS → Option AR} (h42 : ∀ (a0 : Nat) (x1 : Int32) (x2 : Int32) (x3 : Int32) (x4 : Int32) (s0 : AS), OK Γ 42 [(0, .ref a0), (1, .int x1), (2, .int x2), (3, .int x3), (4, .int x4)] [] (r42 a0 x1 x2 x3 x4 s0) s0) : ∀ (a0 : Nat) (x1 : Int32) (x2 : Int32) (x3 : Int32) (x4 : Int32) (s0 : AS), OK Γ 78 [(0, .ref a0), (1, .int x1), (2, .int x2), (3, .int x3), (4, .int x4)] [] (fX7_rowFor_78 r42 a0 x1 x2 x3 x4 s0) s0 := by
  intro a0 x1 x2 x3 x4 s0
  unfold fX7_rowFor_78
  refine ok_iincL C 4 (c := 1) (fun v1 => [(4, .int v1), (0, .ref a0), (1, .int x1), (2, .int x2), (3, .int x3)]) dX7_rowFor_78 rfl rfl (by rw [hn]; decide) (fun _ => rfl) (fun v1 => ?_)
  refine ok_goto C 42 dX7_rowFor_81 (by decide) ?_
  refine OK.sub (lv' := [(0, .ref a0), (1, .int x1), (2, .int x2), (3, .int x3), (4, .int v1)]) [1, 2, 3, 4, 0] rfl ?_
  exact h42 a0 x1 x2 x3 v1 s0
set_option maxHeartbeats 4000000 in
theorem oX7_rowFor_42 {Γ : CX} (C : OKC Γ cX7_rowFor RX7 (some (.int))) (T : ∀ z ∈ (cx_c Γ).exceptionTable.toList, False) (hn : cx_nL Γ = 6) (hR : cx_fr Γ = 10 ∧ cx_lo Γ = 261) (hin : (cx_meth Γ).name = yX7_rowFor.name) : ∀ (n : Nat) (a0 : Nat) (x1 : Int32) (x2 : Int32) (x3 : Int32) (x4 : Int32) (s0 : AS), OK Γ 42 [(0, .ref a0), (1, .int x1), (2, .int x2), (3, .int x3), (4, .int x4)] [] (fX7_rowFor_42 n a0 x1 x2 x3 x4 s0) s0 := by
  intro n
  induction n with
  | zero => intro _ _ _ _ _ s0; exact OK.none
  | succ n ih =>
    intro a0 x1 x2 x3 x4 s0
    rw [fX7_rowFor_42]
    refine ok_iload C 4 dX7_rowFor_42 rfl ?_
    refine ok_aload_n C 0 dX7_rowFor_44 rfl ?_
    refine ok_getI C frX7_154_11 dX7_rowFor_45 (fun v1 => ?_)
    refine ok_icmp_ge C 84 dX7_rowFor_48 (by decide) ?_ ?_
    · refine ok_iload_n C 2 dX7_rowFor_84 rfl ?_
      exact ok_ireturn C dX7_rowFor_85
    · refine ok_aload_n C 0 dX7_rowFor_51 rfl ?_
      refine ok_iload C 4 dX7_rowFor_52 rfl ?_
      refine ok_iload_n C 1 dX7_rowFor_54 rfl ?_
      refine ok_callV C T [.int x4, .int x1] (F := fX7_fewestIf a0 x4 x1) (ctX7_fewestIf (C.2.2.2.2.2.2.2.2.1) a0 x4 x1) vlX7_359 viX7_fewestIf rfl rfl (by decide) rfl (by rw [hR.1, hR.2]; decide) (Nat.le_of_ble_eq_true rfl) dX7_rowFor_55 (ok_qI fun v2 s3 => ?_)
      refine ok_istore C (i := 5) [(5, .int v2), (0, .ref a0), (1, .int x1), (2, .int x2), (3, .int x3), (4, .int x4)] dX7_rowFor_58 (by rw [hn]; decide) rfl ?_
      refine ok_iload C 0 dX7_rowFor_60 rfl ?_
      refine ok_iconst C (v := (-1)) dX7_rowFor_62 (by decide) ?_
      refine ok_icmp_eq C 78 dX7_rowFor_63 (by decide) ?_ ?_
      · refine OK.sub (lv' := [(0, .ref a0), (1, .int x1), (2, .int x2), (3, .int x3), (4, .int x4)]) [1, 2, 3, 4, 5] rfl ?_
        exact oX7_rowFor_78 C T hn hR hin ih a0 x1 x2 x3 x4 s3
      · refine ok_iload C 0 dX7_rowFor_66 rfl ?_
        refine ok_iload_n C 4 dX7_rowFor_68 rfl ?_
        refine ok_icmp_ge C 78 dX7_rowFor_69 (by decide) ?_ ?_
        · refine OK.sub (lv' := [(0, .ref a0), (1, .int x1), (2, .int x2), (3, .int x3), (4, .int x4)]) [1, 2, 3, 4, 5] rfl ?_
          exact oX7_rowFor_78 C T hn hR hin ih a0 x1 x2 x3 x4 s3
        · refine ok_iload C 5 dX7_rowFor_72 rfl ?_
          refine ok_istore_n C (i := 2) [(2, .int x4), (5, .int v2), (0, .ref a0), (1, .int x1), (3, .int x3), (4, .int x4)] dX7_rowFor_74 rfl (by rw [hn]; decide) rfl ?_
          refine ok_iload C 1 dX7_rowFor_75 rfl ?_
          refine ok_istore_n C (i := 3) [(3, .int v2), (2, .int x4), (5, .int v2), (0, .ref a0), (1, .int x1), (4, .int x4)] dX7_rowFor_77 rfl (by rw [hn]; decide) rfl ?_
          refine OK.sub (lv' := [(0, .ref a0), (1, .int x1), (2, .int x4), (3, .int v2), (4, .int x4)]) [3, 4, 1, 0, 5] rfl ?_
          exact oX7_rowFor_78 C T hn hR hin ih a0 x1 x4 v2 x4 s3
set_option maxHeartbeats 4000000 in
theorem oX7_rowFor_24 {Γ : CX} (C : OKC Γ cX7_rowFor RX7 (some (.int))) (T : ∀ z ∈ (cx_c Γ).exceptionTable.toList, False) (hn : cx_nL Γ = 6) (hR : cx_fr Γ = 10 ∧ cx_lo Γ = 261) (hin : (cx_meth Γ).name = yX7_rowFor.name) : ∀ (a0 : Nat) (x1 : Int32) (t0 : Nat) (t1 : Int32) (s0 : AS), OK Γ 24 [(0, .ref a0), (1, .int x1)] [.int t1, .ref t0] (fX7_rowFor_24  a0 x1 t0 t1 s0) s0 := by
  intro a0 x1 t0 t1 s0
  unfold fX7_rowFor_24
  refine ok_iconst C (v := 2) dX7_rowFor_24 (by decide) ?_
  refine ok_callV C T [.int t1, .int 2] (F := fX7_refuse t0 t1 2) (ctX7_refuse (C.2.2.2.2.2.2.2.2.1) t0 t1 2) vlX7_74 viX7_refuse rfl rfl (by decide) rfl (by rw [hR.1, hR.2]; decide) (Nat.le_of_ble_eq_true rfl) dX7_rowFor_25 (ok_qI fun v1 s2 => ?_)
  refine ok_if_eq C 33 dX7_rowFor_28 (by decide) ?_ ?_
  · refine ok_iconst C (v := (-1)) dX7_rowFor_33 (by decide) ?_
    refine ok_lt (fun v3 => ?_)
    refine ok_istore_n C (i := 2) [(2, .int v3), (0, .ref a0), (1, .int x1)] dX7_rowFor_34 rfl (by rw [hn]; decide) rfl ?_
    refine ok_ldcw C (v := 1000000) kw_915 dX7_rowFor_35 ?_
    refine ok_istore_n C (i := 3) [(3, .int 1000000), (2, .int v3), (0, .ref a0), (1, .int x1)] dX7_rowFor_38 rfl (by rw [hn]; decide) rfl ?_
    refine ok_iconst C (v := 0) dX7_rowFor_39 (by decide) ?_
    refine ok_istore C (i := 4) [(4, .int 0), (3, .int 1000000), (2, .int v3), (0, .ref a0), (1, .int x1)] dX7_rowFor_40 (by rw [hn]; decide) rfl ?_
    refine OK.sub (lv' := [(0, .ref a0), (1, .int x1), (2, .int v3), (3, .int 1000000), (4, .int 0)]) [3, 4, 2, 1, 0] rfl ?_
    exact oX7_rowFor_42 C T hn hR hin FU a0 x1 v3 1000000 0 s2
  · refine ok_iconst C (v := 0) dX7_rowFor_31 (by decide) ?_
    exact ok_ireturn C dX7_rowFor_32
set_option maxHeartbeats 4000000 in
theorem oX7_rowFor {Γ : CX} (C : OKC Γ cX7_rowFor RX7 (some (.int))) (T : ∀ z ∈ (cx_c Γ).exceptionTable.toList, False) (hn : cx_nL Γ = 6) (hR : cx_fr Γ = 10 ∧ cx_lo Γ = 261) (hin : (cx_meth Γ).name = yX7_rowFor.name) : ∀ (a0 : Nat) (x1 : Int32) (s0 : AS), OK Γ 0 [(0, .ref a0), (1, .int x1)] [] (fX7_rowFor a0 x1 s0) s0 := by
  intro a0 x1 s0
  unfold fX7_rowFor
  refine ok_aload_n C 0 dX7_rowFor_0 rfl ?_
  refine ok_callV C T [] (F := fX7_notLoaded a0) (ctX7_notLoaded (C.2.2.2.2.2.2.2.2.1) a0) vlX7_320 viX7_notLoaded rfl rfl (by decide) rfl (by rw [hR.1, hR.2]; decide) (Nat.le_of_ble_eq_true rfl) dX7_rowFor_1 (ok_qI fun v1 s2 => ?_)
  refine ok_if_ne C 31 dX7_rowFor_4 (by decide) ?_ ?_
  · refine ok_iconst C (v := 0) dX7_rowFor_31 (by decide) ?_
    exact ok_ireturn C dX7_rowFor_32
  · refine ok_aload_n C 0 dX7_rowFor_7 rfl ?_
    refine ok_iload_n C 1 dX7_rowFor_8 rfl ?_
    refine ok_iconst C (v := 1) dX7_rowFor_9 (by decide) ?_
    refine ok_sipush C (v := 200) dX7_rowFor_10 (by decide) ?_
    refine ok_callS C T [.int x1, .int 1, .int 200] (F := fX7_in x1 1 200) (ctX7_in (C.2.2.2.2.2.2.2.2.1) x1 1 200) vlX7_143 kw_793 rfl (by rw [hR.1, hR.2]; decide) (Nat.le_of_ble_eq_true rfl) dX7_rowFor_13 (ok_qI fun v3 s4 => ?_)
    refine ok_if_ne C 23 dX7_rowFor_16 (by decide) ?_ ?_
    · refine ok_iconst C (v := 0) dX7_rowFor_23 (by decide) ?_
      exact oX7_rowFor_24 C T hn hR hin a0 x1 a0 0 s4
    · refine ok_iconst C (v := 1) dX7_rowFor_19 (by decide) ?_
      refine ok_goto C 24 dX7_rowFor_20 (by decide) ?_
      exact oX7_rowFor_24 C T hn hR hin a0 x1 a0 1 s4
theorem ctX7_rowFor {l : Launch} (hl : l.stackTraces = false) {D : va_G} {dA : Nat → ClassId} {B0 : Nat} (a0 : Nat) (x1 : Int32) : Ct l D dA B0 yX7_rowFor (.code yX7_rowFor cX7_rowFor 6 (some (.int)) :: ax_ALL) 10 261 [.ref a0, .int x1] (fX7_rowFor a0 x1) :=
  Ct.of hl (by decide +kernel) (Nat.le_of_ble_eq_true rfl) fun Γ C _ _ _ _ e5 e6 e7 T hin => oX7_rowFor C T e5 ⟨e6, e7⟩ hin a0 x1 _
/-! ChaseLockerModel.missing(I)I -/
def fX7_missing_70 (r24 : Nat → Int32 → Int32 → Int32 → AS → Option AR) (a0 : Nat) (x1 : Int32) (x2 : Int32) (x3 : Int32) (s0 : AS) : Option AR :=
  lt (x3 + 1) (fun v1 =>
  r24 a0 x1 x2 v1 s0)
def fX7_missing_68 (r24 : Nat → Int32 → Int32 → Int32 → AS → Option AR) (a0 : Nat) (x1 : Int32) (x3 : Int32) (s0 : AS) : Option AR :=
  fX7_missing_70 r24 a0 x1 x3 x3 s0
def fX7_missing_24  : Nat → Nat → Int32 → Int32 → Int32 → AS → Option AR
  | 0, _, _, _, _, _ => none
  | n + 1, a0, x1, x2, x3, s0 =>
    gI s0 a0 11 9 (fun v1 =>
    if v1 ≤ x3 then (
      some (.inl (some (.int x2)), s0))
    else (
      sI s0 a0 11 37 x3 (fun s2 =>
      cV s2 a0 11 (fX7_chooses a0 x1 s2) (qI (fun v3 s4 =>
      sI s4 a0 11 37 ((-1)) (fun s5 =>
      if v3 = 0 then (
        fX7_missing_70 (fX7_missing_24 n) a0 x1 x2 x3 s5)
      else (
        if x2 = (-1 : Int32) then (
          fX7_missing_68 (fX7_missing_24 n) a0 x1 x3 s5)
        else (
          cV s5 a0 11 (fX7_isAhead a0 x3 x2 s5) (qI (fun v6 s7 =>
          if v6 = 0 then (
            fX7_missing_70 (fX7_missing_24 n) a0 x1 x2 x3 s7)
          else (
            fX7_missing_68 (fX7_missing_24 n) a0 x1 x3 s7)))))))))))
def fX7_missing (a0 : Nat) (x1 : Int32) (s0 : AS) : Option AR :=
  cV s0 a0 11 (fX7_noRow a0 x1 s0) (qI (fun v1 s2 =>
  if v1 = 0 then (
    cV s2 a0 11 (fX7_chooses a0 x1 s2) (qI (fun v3 s4 =>
    if v3 = 0 then (
      lt ((-1)) (fun v5 =>
      fX7_missing_24 FU a0 x1 v5 0 s4))
    else (
      some (.inl (some (.int ((-1)))), s4)))))
  else (
    some (.inl (some (.int 0)), s2))))
set_option maxHeartbeats 4000000 in
theorem oX7_missing_70 {Γ : CX} (C : OKC Γ cX7_missing RX7 (some (.int))) (T : ∀ z ∈ (cx_c Γ).exceptionTable.toList, False) (hn : cx_nL Γ = 5) (hR : cx_fr Γ = 9 ∧ cx_lo Γ = 238) (hin : (cx_meth Γ).name = yX7_missing.name) {r24 : Nat → Int32 → Int32 → Int32 → AS → Option AR} (h24 : ∀ (a0 : Nat) (x1 : Int32) (x2 : Int32) (x3 : Int32) (s0 : AS), OK Γ 24 [(0, .ref a0), (1, .int x1), (2, .int x2), (3, .int x3)] [] (r24 a0 x1 x2 x3 s0) s0) : ∀ (a0 : Nat) (x1 : Int32) (x2 : Int32) (x3 : Int32) (s0 : AS), OK Γ 70 [(0, .ref a0), (1, .int x1), (2, .int x2), (3, .int x3)] [] (fX7_missing_70 r24 a0 x1 x2 x3 s0) s0 := by
  intro a0 x1 x2 x3 s0
  unfold fX7_missing_70
  refine ok_iincL C 3 (c := 1) (fun v1 => [(3, .int v1), (0, .ref a0), (1, .int x1), (2, .int x2)]) dX7_missing_70 rfl rfl (by rw [hn]; decide) (fun _ => rfl) (fun v1 => ?_)
  refine ok_goto C 24 dX7_missing_73 (by decide) ?_
  refine OK.sub (lv' := [(0, .ref a0), (1, .int x1), (2, .int x2), (3, .int v1)]) [1, 2, 3, 0] rfl ?_
  exact h24 a0 x1 x2 v1 s0
set_option maxHeartbeats 4000000 in
theorem oX7_missing_68 {Γ : CX} (C : OKC Γ cX7_missing RX7 (some (.int))) (T : ∀ z ∈ (cx_c Γ).exceptionTable.toList, False) (hn : cx_nL Γ = 5) (hR : cx_fr Γ = 9 ∧ cx_lo Γ = 238) (hin : (cx_meth Γ).name = yX7_missing.name) {r24 : Nat → Int32 → Int32 → Int32 → AS → Option AR} (h24 : ∀ (a0 : Nat) (x1 : Int32) (x2 : Int32) (x3 : Int32) (s0 : AS), OK Γ 24 [(0, .ref a0), (1, .int x1), (2, .int x2), (3, .int x3)] [] (r24 a0 x1 x2 x3 s0) s0) : ∀ (a0 : Nat) (x1 : Int32) (x3 : Int32) (s0 : AS), OK Γ 68 [(0, .ref a0), (1, .int x1), (3, .int x3)] [] (fX7_missing_68 r24 a0 x1 x3 s0) s0 := by
  intro a0 x1 x3 s0
  unfold fX7_missing_68
  refine ok_iload_n C 2 dX7_missing_68 rfl ?_
  refine ok_istore_n C (i := 2) [(2, .int x3), (0, .ref a0), (1, .int x1), (3, .int x3)] dX7_missing_69 rfl (by rw [hn]; decide) rfl ?_
  refine OK.sub (lv' := [(0, .ref a0), (1, .int x1), (2, .int x3), (3, .int x3)]) [1, 2, 0, 3] rfl ?_
  exact oX7_missing_70 C T hn hR hin h24 a0 x1 x3 x3 s0
set_option maxHeartbeats 4000000 in
theorem oX7_missing_24 {Γ : CX} (C : OKC Γ cX7_missing RX7 (some (.int))) (T : ∀ z ∈ (cx_c Γ).exceptionTable.toList, False) (hn : cx_nL Γ = 5) (hR : cx_fr Γ = 9 ∧ cx_lo Γ = 238) (hin : (cx_meth Γ).name = yX7_missing.name) : ∀ (n : Nat) (a0 : Nat) (x1 : Int32) (x2 : Int32) (x3 : Int32) (s0 : AS), OK Γ 24 [(0, .ref a0), (1, .int x1), (2, .int x2), (3, .int x3)] [] (fX7_missing_24 n a0 x1 x2 x3 s0) s0 := by
  intro n
  induction n with
  | zero => intro _ _ _ _ s0; exact OK.none
  | succ n ih =>
    intro a0 x1 x2 x3 s0
    rw [fX7_missing_24]
    refine ok_iload_n C 3 dX7_missing_24 rfl ?_
    refine ok_aload_n C 0 dX7_missing_25 rfl ?_
    refine ok_getI C frX7_172_11 dX7_missing_26 (fun v1 => ?_)
    refine ok_icmp_ge C 76 dX7_missing_29 (by decide) ?_ ?_
    · refine ok_iload_n C 2 dX7_missing_76 rfl ?_
      exact ok_ireturn C dX7_missing_77
    · refine ok_aload_n C 0 dX7_missing_32 rfl ?_
      refine ok_iload_n C 3 dX7_missing_33 rfl ?_
      refine ok_putI C flX7_58_11 dX7_missing_34 (fun s2 _ => ?_)
      refine ok_aload_n C 0 dX7_missing_37 rfl ?_
      refine ok_iload_n C 1 dX7_missing_38 rfl ?_
      refine ok_callV C T [.int x1] (F := fX7_chooses a0 x1) (ctX7_chooses (C.2.2.2.2.2.2.2.2.1) a0 x1) vlX7_311 viX7_chooses rfl rfl (by decide) rfl (by rw [hR.1, hR.2]; decide) (Nat.le_of_ble_eq_true rfl) dX7_missing_39 (ok_qI fun v3 s4 => ?_)
      refine ok_istore C (i := 4) [(4, .int v3), (0, .ref a0), (1, .int x1), (2, .int x2), (3, .int x3)] dX7_missing_42 (by rw [hn]; decide) rfl ?_
      refine ok_aload_n C 1 dX7_missing_44 rfl ?_
      refine ok_iconst C (v := (-1)) dX7_missing_45 (by decide) ?_
      refine ok_putI C flX7_58_11 dX7_missing_46 (fun s5 _ => ?_)
      refine ok_iload C 0 dX7_missing_49 rfl ?_
      refine ok_if_eq C 70 dX7_missing_51 (by decide) ?_ ?_
      · refine OK.sub (lv' := [(0, .ref a0), (1, .int x1), (2, .int x2), (3, .int x3)]) [1, 2, 3, 4] rfl ?_
        exact oX7_missing_70 C T hn hR hin ih a0 x1 x2 x3 s5
      · refine ok_iload_n C 3 dX7_missing_54 rfl ?_
        refine ok_iconst C (v := (-1)) dX7_missing_55 (by decide) ?_
        refine ok_icmp_eq C 68 dX7_missing_56 (by decide) ?_ ?_
        · refine OK.sub (lv' := [(0, .ref a0), (1, .int x1), (3, .int x3)]) [1, 2, 4] rfl ?_
          exact oX7_missing_68 C T hn hR hin ih a0 x1 x3 s5
        · refine ok_aload_n C 1 dX7_missing_59 rfl ?_
          refine ok_iload_n C 4 dX7_missing_60 rfl ?_
          refine ok_iload_n C 3 dX7_missing_61 rfl ?_
          refine ok_callV C T [.int x3, .int x2] (F := fX7_isAhead a0 x3 x2) (ctX7_isAhead (C.2.2.2.2.2.2.2.2.1) a0 x3 x2) vlX7_273 viX7_isAhead rfl rfl (by decide) rfl (by rw [hR.1, hR.2]; decide) (Nat.le_of_ble_eq_true rfl) dX7_missing_62 (ok_qI fun v6 s7 => ?_)
          refine ok_if_eq C 70 dX7_missing_65 (by decide) ?_ ?_
          · refine OK.sub (lv' := [(0, .ref a0), (1, .int x1), (2, .int x2), (3, .int x3)]) [1, 2, 3, 4] rfl ?_
            exact oX7_missing_70 C T hn hR hin ih a0 x1 x2 x3 s7
          · refine OK.sub (lv' := [(0, .ref a0), (1, .int x1), (3, .int x3)]) [1, 2, 4] rfl ?_
            exact oX7_missing_68 C T hn hR hin ih a0 x1 x3 s7
set_option maxHeartbeats 4000000 in
theorem oX7_missing {Γ : CX} (C : OKC Γ cX7_missing RX7 (some (.int))) (T : ∀ z ∈ (cx_c Γ).exceptionTable.toList, False) (hn : cx_nL Γ = 5) (hR : cx_fr Γ = 9 ∧ cx_lo Γ = 238) (hin : (cx_meth Γ).name = yX7_missing.name) : ∀ (a0 : Nat) (x1 : Int32) (s0 : AS), OK Γ 0 [(0, .ref a0), (1, .int x1)] [] (fX7_missing a0 x1 s0) s0 := by
  intro a0 x1 s0
  unfold fX7_missing
  refine ok_aload_n C 0 dX7_missing_0 rfl ?_
  refine ok_iload_n C 1 dX7_missing_1 rfl ?_
  refine ok_callV C T [.int x1] (F := fX7_noRow a0 x1) (ctX7_noRow (C.2.2.2.2.2.2.2.2.1) a0 x1) vlX7_335 viX7_noRow rfl rfl (by decide) rfl (by rw [hR.1, hR.2]; decide) (Nat.le_of_ble_eq_true rfl) dX7_missing_2 (ok_qI fun v1 s2 => ?_)
  refine ok_if_eq C 10 dX7_missing_5 (by decide) ?_ ?_
  · refine ok_aload_n C 0 dX7_missing_10 rfl ?_
    refine ok_iload_n C 1 dX7_missing_11 rfl ?_
    refine ok_callV C T [.int x1] (F := fX7_chooses a0 x1) (ctX7_chooses (C.2.2.2.2.2.2.2.2.1) a0 x1) vlX7_311 viX7_chooses rfl rfl (by decide) rfl (by rw [hR.1, hR.2]; decide) (Nat.le_of_ble_eq_true rfl) dX7_missing_12 (ok_qI fun v3 s4 => ?_)
    refine ok_if_eq C 20 dX7_missing_15 (by decide) ?_ ?_
    · refine ok_iconst C (v := (-1)) dX7_missing_20 (by decide) ?_
      refine ok_lt (fun v5 => ?_)
      refine ok_istore_n C (i := 2) [(2, .int v5), (0, .ref a0), (1, .int x1)] dX7_missing_21 rfl (by rw [hn]; decide) rfl ?_
      refine ok_iconst C (v := 0) dX7_missing_22 (by decide) ?_
      refine ok_istore_n C (i := 3) [(3, .int 0), (2, .int v5), (0, .ref a0), (1, .int x1)] dX7_missing_23 rfl (by rw [hn]; decide) rfl ?_
      refine OK.sub (lv' := [(0, .ref a0), (1, .int x1), (2, .int v5), (3, .int 0)]) [2, 3, 1, 0] rfl ?_
      exact oX7_missing_24 C T hn hR hin FU a0 x1 v5 0 s4
    · refine ok_iconst C (v := (-1)) dX7_missing_18 (by decide) ?_
      exact ok_ireturn C dX7_missing_19
  · refine ok_iconst C (v := 0) dX7_missing_8 (by decide) ?_
    exact ok_ireturn C dX7_missing_9
theorem ctX7_missing {l : Launch} (hl : l.stackTraces = false) {D : va_G} {dA : Nat → ClassId} {B0 : Nat} (a0 : Nat) (x1 : Int32) : Ct l D dA B0 yX7_missing (.code yX7_missing cX7_missing 5 (some (.int)) :: ax_ALL) 9 238 [.ref a0, .int x1] (fX7_missing a0 x1) :=
  Ct.of hl (by decide +kernel) (Nat.le_of_ble_eq_true rfl) fun Γ C _ _ _ _ e5 e6 e7 T hin => oX7_missing C T e5 ⟨e6, e7⟩ hin a0 x1 _
/-! ChaseLockerModel.fallsIn(IZ)I -/
def fX7_fallsIn_64  (t0 : Nat) (t1 : Int32) (s0 : AS) : Option AR :=
  cV s0 t0 11 (fX7_fetchesBack t0 t1 s0) (qI (fun v1 s2 =>
  some (.inl (some (.int v1)), s2)))
def fX7_fallsIn_51  (a0 : Nat) (x3 : Int32) (s0 : AS) : Option AR :=
  if (200 : Int32) < x3 then (
    fX7_fallsIn_64 a0 ((-1)) s0)
  else (
    fX7_fallsIn_64 a0 x3 s0)
def fX7_fallsIn_38 (r16 : Nat → Int32 → Int32 → Int32 → AS → Option AR) (a0 : Nat) (x1 : Int32) (x2 : Int32) (x3 : Int32) (t0 : Int32) (s0 : AS) : Option AR :=
  if ((t0 >>> (x1 &&& 31)) &&& 1) = 0 then (
    lt (x3 + 1) (fun v1 =>
    r16 a0 x1 x2 v1 s0))
  else (
    fX7_fallsIn_51 a0 x3 s0)
def fX7_fallsIn_16  : Nat → Nat → Int32 → Int32 → Int32 → AS → Option AR
  | 0, _, _, _, _, _ => none
  | n + 1, a0, x1, x2, x3, s0 =>
    if (200 : Int32) < x3 then (
      fX7_fallsIn_51 a0 x3 s0)
    else (
      if x2 = 0 then (
        cV s0 a0 11 (fX7_prints a0 s0) (qI (fun v1 s2 =>
        fX7_fallsIn_38 (fX7_fallsIn_16 n) a0 x1 x2 x3 v1 s2)))
      else (
        cV s0 a0 11 (fX7_passes a0 s0) (qI (fun v3 s4 =>
        fX7_fallsIn_38 (fX7_fallsIn_16 n) a0 x1 x2 x3 v3 s4))))
def fX7_fallsIn (a0 : Nat) (x1 : Int32) (x2 : Int32) (s0 : AS) : Option AR :=
  cV s0 a0 11 (fX7_noRow a0 x1 s0) (qI (fun v1 s2 =>
  if v1 = 0 then (
    cV s2 a0 11 (fX7_putsAside a0 s2) (qV (fun s3 =>
    fX7_fallsIn_16 FU a0 x1 x2 1 s3)))
  else (
    some (.inl (some (.int 0)), s2))))
set_option maxHeartbeats 4000000 in
theorem oX7_fallsIn_64 {Γ : CX} (C : OKC Γ cX7_fallsIn RX7 (some (.int))) (T : ∀ z ∈ (cx_c Γ).exceptionTable.toList, False) (hn : cx_nL Γ = 4) (hR : cx_fr Γ = 9 ∧ cx_lo Γ = 233) (hin : (cx_meth Γ).name = yX7_fallsIn.name) : ∀ (t0 : Nat) (t1 : Int32) (s0 : AS), OK Γ 64 [] [.int t1, .ref t0] (fX7_fallsIn_64  t0 t1 s0) s0 := by
  intro t0 t1 s0
  unfold fX7_fallsIn_64
  refine ok_callV C T [.int t1] (F := fX7_fetchesBack t0 t1) (ctX7_fetchesBack (C.2.2.2.2.2.2.2.2.1) t0 t1) vlX7_356 viX7_fetchesBack rfl rfl (by decide) rfl (by rw [hR.1, hR.2]; decide) (Nat.le_of_ble_eq_true rfl) dX7_fallsIn_64 (ok_qI fun v1 s2 => ?_)
  exact ok_ireturn C dX7_fallsIn_67
set_option maxHeartbeats 4000000 in
theorem oX7_fallsIn_51 {Γ : CX} (C : OKC Γ cX7_fallsIn RX7 (some (.int))) (T : ∀ z ∈ (cx_c Γ).exceptionTable.toList, False) (hn : cx_nL Γ = 4) (hR : cx_fr Γ = 9 ∧ cx_lo Γ = 233) (hin : (cx_meth Γ).name = yX7_fallsIn.name) : ∀ (a0 : Nat) (x3 : Int32) (s0 : AS), OK Γ 51 [(0, .ref a0), (3, .int x3)] [] (fX7_fallsIn_51  a0 x3 s0) s0 := by
  intro a0 x3 s0
  unfold fX7_fallsIn_51
  refine ok_aload_n C 0 dX7_fallsIn_51 rfl ?_
  refine ok_iload_n C 1 dX7_fallsIn_52 rfl ?_
  refine ok_sipush C (v := 200) dX7_fallsIn_53 (by decide) ?_
  refine ok_icmp_gt C 63 dX7_fallsIn_56 (by decide) ?_ ?_
  · refine ok_iconst C (v := (-1)) dX7_fallsIn_63 (by decide) ?_
    refine OK.sub (lv' := []) [] rfl ?_
    exact oX7_fallsIn_64 C T hn hR hin a0 ((-1)) s0
  · refine ok_iload_n C 1 dX7_fallsIn_59 rfl ?_
    refine ok_goto C 64 dX7_fallsIn_60 (by decide) ?_
    refine OK.sub (lv' := []) [] rfl ?_
    exact oX7_fallsIn_64 C T hn hR hin a0 x3 s0
set_option maxHeartbeats 4000000 in
theorem oX7_fallsIn_38 {Γ : CX} (C : OKC Γ cX7_fallsIn RX7 (some (.int))) (T : ∀ z ∈ (cx_c Γ).exceptionTable.toList, False) (hn : cx_nL Γ = 4) (hR : cx_fr Γ = 9 ∧ cx_lo Γ = 233) (hin : (cx_meth Γ).name = yX7_fallsIn.name) {r16 : Nat → Int32 → Int32 → Int32 → AS → Option AR} (h16 : ∀ (a0 : Nat) (x1 : Int32) (x2 : Int32) (x3 : Int32) (s0 : AS), OK Γ 16 [(0, .ref a0), (1, .int x1), (2, .int x2), (3, .int x3)] [] (r16 a0 x1 x2 x3 s0) s0) : ∀ (a0 : Nat) (x1 : Int32) (x2 : Int32) (x3 : Int32) (t0 : Int32) (s0 : AS), OK Γ 38 [(0, .ref a0), (1, .int x1), (2, .int x2), (3, .int x3)] [.int t0] (fX7_fallsIn_38 r16 a0 x1 x2 x3 t0 s0) s0 := by
  intro a0 x1 x2 x3 t0 s0
  unfold fX7_fallsIn_38
  refine ok_iload_n C 1 dX7_fallsIn_38 rfl ?_
  refine ok_ishr C dX7_fallsIn_39 ?_
  refine ok_iconst C (v := 1) dX7_fallsIn_40 (by decide) ?_
  refine ok_iand C dX7_fallsIn_41 ?_
  refine ok_if_ne C 51 dX7_fallsIn_42 (by decide) ?_ ?_
  · refine OK.sub (lv' := [(0, .ref a0), (3, .int x3)]) [0, 3] rfl ?_
    exact oX7_fallsIn_51 C T hn hR hin a0 x3 s0
  · refine ok_iincL C 3 (c := 1) (fun v1 => [(3, .int v1), (0, .ref a0), (1, .int x1), (2, .int x2)]) dX7_fallsIn_45 rfl rfl (by rw [hn]; decide) (fun _ => rfl) (fun v1 => ?_)
    refine ok_goto C 16 dX7_fallsIn_48 (by decide) ?_
    refine OK.sub (lv' := [(0, .ref a0), (1, .int x1), (2, .int x2), (3, .int v1)]) [1, 2, 3, 0] rfl ?_
    exact h16 a0 x1 x2 v1 s0
set_option maxHeartbeats 4000000 in
theorem oX7_fallsIn_16 {Γ : CX} (C : OKC Γ cX7_fallsIn RX7 (some (.int))) (T : ∀ z ∈ (cx_c Γ).exceptionTable.toList, False) (hn : cx_nL Γ = 4) (hR : cx_fr Γ = 9 ∧ cx_lo Γ = 233) (hin : (cx_meth Γ).name = yX7_fallsIn.name) : ∀ (n : Nat) (a0 : Nat) (x1 : Int32) (x2 : Int32) (x3 : Int32) (s0 : AS), OK Γ 16 [(0, .ref a0), (1, .int x1), (2, .int x2), (3, .int x3)] [] (fX7_fallsIn_16 n a0 x1 x2 x3 s0) s0 := by
  intro n
  induction n with
  | zero => intro _ _ _ _ s0; exact OK.none
  | succ n ih =>
    intro a0 x1 x2 x3 s0
    rw [fX7_fallsIn_16]
    refine ok_iload_n C 3 dX7_fallsIn_16 rfl ?_
    refine ok_sipush C (v := 200) dX7_fallsIn_17 (by decide) ?_
    refine ok_icmp_gt C 51 dX7_fallsIn_20 (by decide) ?_ ?_
    · refine OK.sub (lv' := [(0, .ref a0), (3, .int x3)]) [0, 3] rfl ?_
      exact oX7_fallsIn_51 C T hn hR hin a0 x3 s0
    · refine ok_iload_n C 2 dX7_fallsIn_23 rfl ?_
      refine ok_if_eq C 34 dX7_fallsIn_24 (by decide) ?_ ?_
      · refine ok_aload_n C 0 dX7_fallsIn_34 rfl ?_
        refine ok_callV C T [] (F := fX7_prints a0) (ctX7_prints (C.2.2.2.2.2.2.2.2.1) a0) vlX7_365 viX7_prints rfl rfl (by decide) rfl (by rw [hR.1, hR.2]; decide) (Nat.le_of_ble_eq_true rfl) dX7_fallsIn_35 (ok_qI fun v1 s2 => ?_)
        exact oX7_fallsIn_38 C T hn hR hin ih a0 x1 x2 x3 v1 s2
      · refine ok_aload_n C 0 dX7_fallsIn_27 rfl ?_
        refine ok_callV C T [] (F := fX7_passes a0) (ctX7_passes (C.2.2.2.2.2.2.2.2.1) a0) vlX7_362 viX7_passes rfl rfl (by decide) rfl (by rw [hR.1, hR.2]; decide) (Nat.le_of_ble_eq_true rfl) dX7_fallsIn_28 (ok_qI fun v3 s4 => ?_)
        refine ok_goto C 38 dX7_fallsIn_31 (by decide) ?_
        exact oX7_fallsIn_38 C T hn hR hin ih a0 x1 x2 x3 v3 s4
set_option maxHeartbeats 4000000 in
theorem oX7_fallsIn {Γ : CX} (C : OKC Γ cX7_fallsIn RX7 (some (.int))) (T : ∀ z ∈ (cx_c Γ).exceptionTable.toList, False) (hn : cx_nL Γ = 4) (hR : cx_fr Γ = 9 ∧ cx_lo Γ = 233) (hin : (cx_meth Γ).name = yX7_fallsIn.name) : ∀ (a0 : Nat) (x1 : Int32) (x2 : Int32) (s0 : AS), OK Γ 0 [(0, .ref a0), (1, .int x1), (2, .int x2)] [] (fX7_fallsIn a0 x1 x2 s0) s0 := by
  intro a0 x1 x2 s0
  unfold fX7_fallsIn
  refine ok_aload_n C 0 dX7_fallsIn_0 rfl ?_
  refine ok_iload_n C 1 dX7_fallsIn_1 rfl ?_
  refine ok_callV C T [.int x1] (F := fX7_noRow a0 x1) (ctX7_noRow (C.2.2.2.2.2.2.2.2.1) a0 x1) vlX7_335 viX7_noRow rfl rfl (by decide) rfl (by rw [hR.1, hR.2]; decide) (Nat.le_of_ble_eq_true rfl) dX7_fallsIn_2 (ok_qI fun v1 s2 => ?_)
  refine ok_if_eq C 10 dX7_fallsIn_5 (by decide) ?_ ?_
  · refine ok_aload_n C 0 dX7_fallsIn_10 rfl ?_
    refine ok_callV C T [] (F := fX7_putsAside a0) (ctX7_putsAside (C.2.2.2.2.2.2.2.2.1) a0) vlX7_353 viX7_putsAside rfl rfl (by decide) rfl (by rw [hR.1, hR.2]; decide) (Nat.le_of_ble_eq_true rfl) dX7_fallsIn_11 (ok_qV fun s3 => ?_)
    refine ok_iconst C (v := 1) dX7_fallsIn_14 (by decide) ?_
    refine ok_istore_n C (i := 3) [(3, .int 1), (0, .ref a0), (1, .int x1), (2, .int x2)] dX7_fallsIn_15 rfl (by rw [hn]; decide) rfl ?_
    refine OK.sub (lv' := [(0, .ref a0), (1, .int x1), (2, .int x2), (3, .int 1)]) [1, 2, 3, 0] rfl ?_
    exact oX7_fallsIn_16 C T hn hR hin FU a0 x1 x2 1 s3
  · refine ok_iconst C (v := 0) dX7_fallsIn_8 (by decide) ?_
    exact ok_ireturn C dX7_fallsIn_9
theorem ctX7_fallsIn {l : Launch} (hl : l.stackTraces = false) {D : va_G} {dA : Nat → ClassId} {B0 : Nat} (a0 : Nat) (x1 : Int32) (x2 : Int32) : Ct l D dA B0 yX7_fallsIn (.code yX7_fallsIn cX7_fallsIn 4 (some (.int)) :: ax_ALL) 9 233 [.ref a0, .int x1, .int x2] (fX7_fallsIn a0 x1 x2) :=
  Ct.of hl (by decide +kernel) (Nat.le_of_ble_eq_true rfl) fun Γ C _ _ _ _ e5 e6 e7 T hin => oX7_fallsIn C T e5 ⟨e6, e7⟩ hin a0 x1 x2 _
/-! ChaseLockerModel.goodIn(I)I -/
def fX7_goodIn_63  (a0 : Nat) (x2 : Int32) (s0 : AS) : Option AR :=
  gR s0 a0 11 12 (fun q1 =>
  aI s0 q1 100 2 (fun v2 =>
  cV s0 a0 11 (fX7_fetchesBack a0 (v2 - x2) s0) (qI (fun v3 s4 =>
  some (.inl (some (.int v3)), s4)))))
def fX7_goodIn_46  : Nat → Nat → Int32 → Int32 → Int32 → AS → Option AR
  | 0, _, _, _, _, _ => none
  | n + 1, a0, x1, x2, x3, s0 =>
    if x1 ≤ x3 then (
      fX7_goodIn_63 a0 x2 s0)
    else (
      cV s0 a0 11 (fX7_prints a0 s0) (qI (fun v1 s2 =>
      lt (x3 + 1) (fun v3 =>
      fX7_goodIn_46 n a0 x1 x2 v3 s2))))
def fX7_goodIn_24  (a0 : Nat) (x1 : Int32) (t0 : Nat) (t1 : Int32) (s0 : AS) : Option AR :=
  cV s0 t0 11 (fX7_refuse t0 t1 2 s0) (qI (fun v1 s2 =>
  if v1 = 0 then (
    cV s2 a0 11 (fX7_putsAside a0 s2) (qV (fun s3 =>
    gR s3 a0 11 12 (fun q4 =>
    aI s3 q4 100 2 (fun v5 =>
    fX7_goodIn_46 FU a0 x1 v5 0 s3)))))
  else (
    some (.inl (some (.int 0)), s2))))
def fX7_goodIn (a0 : Nat) (x1 : Int32) (s0 : AS) : Option AR :=
  cV s0 a0 11 (fX7_notLoaded a0 s0) (qI (fun v1 s2 =>
  if v1 = 0 then (
    cS s2 (fX7_in x1 0 200 s2) (qI (fun v3 s4 =>
    if v3 = 0 then (
      fX7_goodIn_24 a0 x1 a0 1 s4)
    else (
      fX7_goodIn_24 a0 x1 a0 0 s4))))
  else (
    some (.inl (some (.int 0)), s2))))
set_option maxHeartbeats 4000000 in
theorem oX7_goodIn_63 {Γ : CX} (C : OKC Γ cX7_goodIn RX7 (some (.int))) (T : ∀ z ∈ (cx_c Γ).exceptionTable.toList, False) (hn : cx_nL Γ = 5) (hR : cx_fr Γ = 9 ∧ cx_lo Γ = 233) (hin : (cx_meth Γ).name = yX7_goodIn.name) : ∀ (a0 : Nat) (x2 : Int32) (s0 : AS), OK Γ 63 [(0, .ref a0), (2, .int x2)] [] (fX7_goodIn_63  a0 x2 s0) s0 := by
  intro a0 x2 s0
  unfold fX7_goodIn_63
  refine ok_aload_n C 0 dX7_goodIn_63 rfl ?_
  refine ok_aload_n C 0 dX7_goodIn_64 rfl ?_
  refine ok_getR C frX7_17_11 dX7_goodIn_65 (fun q1 => ?_)
  refine ok_iconst C (v := 2) dX7_goodIn_68 (by decide) ?_
  refine ok_iald C dX7_goodIn_69 (fun v2 => ?_)
  refine ok_iload_n C 1 dX7_goodIn_70 rfl ?_
  refine ok_isub C dX7_goodIn_71 ?_
  refine ok_callV C T [.int (v2 - x2)] (F := fX7_fetchesBack a0 (v2 - x2)) (ctX7_fetchesBack (C.2.2.2.2.2.2.2.2.1) a0 (v2 - x2)) vlX7_356 viX7_fetchesBack rfl rfl (by decide) rfl (by rw [hR.1, hR.2]; decide) (Nat.le_of_ble_eq_true rfl) dX7_goodIn_72 (ok_qI fun v3 s4 => ?_)
  exact ok_ireturn C dX7_goodIn_75
set_option maxHeartbeats 4000000 in
theorem oX7_goodIn_46 {Γ : CX} (C : OKC Γ cX7_goodIn RX7 (some (.int))) (T : ∀ z ∈ (cx_c Γ).exceptionTable.toList, False) (hn : cx_nL Γ = 5) (hR : cx_fr Γ = 9 ∧ cx_lo Γ = 233) (hin : (cx_meth Γ).name = yX7_goodIn.name) : ∀ (n : Nat) (a0 : Nat) (x1 : Int32) (x2 : Int32) (x3 : Int32) (s0 : AS), OK Γ 46 [(0, .ref a0), (1, .int x1), (2, .int x2), (3, .int x3)] [] (fX7_goodIn_46 n a0 x1 x2 x3 s0) s0 := by
  intro n
  induction n with
  | zero => intro _ _ _ _ s0; exact OK.none
  | succ n ih =>
    intro a0 x1 x2 x3 s0
    rw [fX7_goodIn_46]
    refine ok_iload_n C 3 dX7_goodIn_46 rfl ?_
    refine ok_iload_n C 1 dX7_goodIn_47 rfl ?_
    refine ok_icmp_ge C 63 dX7_goodIn_48 (by decide) ?_ ?_
    · refine OK.sub (lv' := [(0, .ref a0), (2, .int x2)]) [0, 2] rfl ?_
      exact oX7_goodIn_63 C T hn hR hin a0 x2 s0
    · refine ok_aload_n C 0 dX7_goodIn_51 rfl ?_
      refine ok_callV C T [] (F := fX7_prints a0) (ctX7_prints (C.2.2.2.2.2.2.2.2.1) a0) vlX7_365 viX7_prints rfl rfl (by decide) rfl (by rw [hR.1, hR.2]; decide) (Nat.le_of_ble_eq_true rfl) dX7_goodIn_52 (ok_qI fun v1 s2 => ?_)
      refine ok_istore C (i := 4) [(4, .int v1), (0, .ref a0), (1, .int x1), (2, .int x2), (3, .int x3)] dX7_goodIn_55 (by rw [hn]; decide) rfl ?_
      refine ok_iincL C 4 (c := 1) (fun v3 => [(3, .int v3), (4, .int v1), (0, .ref a0), (1, .int x1), (2, .int x2)]) dX7_goodIn_57 rfl rfl (by rw [hn]; decide) (fun _ => rfl) (fun v3 => ?_)
      refine ok_goto C 46 dX7_goodIn_60 (by decide) ?_
      refine OK.sub (lv' := [(0, .ref a0), (1, .int x1), (2, .int x2), (3, .int v3)]) [2, 3, 4, 0] rfl ?_
      exact ih a0 x1 x2 v3 s2
set_option maxHeartbeats 4000000 in
theorem oX7_goodIn_24 {Γ : CX} (C : OKC Γ cX7_goodIn RX7 (some (.int))) (T : ∀ z ∈ (cx_c Γ).exceptionTable.toList, False) (hn : cx_nL Γ = 5) (hR : cx_fr Γ = 9 ∧ cx_lo Γ = 233) (hin : (cx_meth Γ).name = yX7_goodIn.name) : ∀ (a0 : Nat) (x1 : Int32) (t0 : Nat) (t1 : Int32) (s0 : AS), OK Γ 24 [(0, .ref a0), (1, .int x1)] [.int t1, .ref t0] (fX7_goodIn_24  a0 x1 t0 t1 s0) s0 := by
  intro a0 x1 t0 t1 s0
  unfold fX7_goodIn_24
  refine ok_iconst C (v := 2) dX7_goodIn_24 (by decide) ?_
  refine ok_callV C T [.int t1, .int 2] (F := fX7_refuse t0 t1 2) (ctX7_refuse (C.2.2.2.2.2.2.2.2.1) t0 t1 2) vlX7_74 viX7_refuse rfl rfl (by decide) rfl (by rw [hR.1, hR.2]; decide) (Nat.le_of_ble_eq_true rfl) dX7_goodIn_25 (ok_qI fun v1 s2 => ?_)
  refine ok_if_eq C 33 dX7_goodIn_28 (by decide) ?_ ?_
  · refine ok_aload_n C 0 dX7_goodIn_33 rfl ?_
    refine ok_callV C T [] (F := fX7_putsAside a0) (ctX7_putsAside (C.2.2.2.2.2.2.2.2.1) a0) vlX7_353 viX7_putsAside rfl rfl (by decide) rfl (by rw [hR.1, hR.2]; decide) (Nat.le_of_ble_eq_true rfl) dX7_goodIn_34 (ok_qV fun s3 => ?_)
    refine ok_aload_n C 0 dX7_goodIn_37 rfl ?_
    refine ok_getR C frX7_17_11 dX7_goodIn_38 (fun q4 => ?_)
    refine ok_iconst C (v := 2) dX7_goodIn_41 (by decide) ?_
    refine ok_iald C dX7_goodIn_42 (fun v5 => ?_)
    refine ok_istore_n C (i := 2) [(2, .int v5), (0, .ref a0), (1, .int x1)] dX7_goodIn_43 rfl (by rw [hn]; decide) rfl ?_
    refine ok_iconst C (v := 0) dX7_goodIn_44 (by decide) ?_
    refine ok_istore_n C (i := 3) [(3, .int 0), (2, .int v5), (0, .ref a0), (1, .int x1)] dX7_goodIn_45 rfl (by rw [hn]; decide) rfl ?_
    refine OK.sub (lv' := [(0, .ref a0), (1, .int x1), (2, .int v5), (3, .int 0)]) [2, 3, 1, 0] rfl ?_
    exact oX7_goodIn_46 C T hn hR hin FU a0 x1 v5 0 s3
  · refine ok_iconst C (v := 0) dX7_goodIn_31 (by decide) ?_
    exact ok_ireturn C dX7_goodIn_32
set_option maxHeartbeats 4000000 in
theorem oX7_goodIn {Γ : CX} (C : OKC Γ cX7_goodIn RX7 (some (.int))) (T : ∀ z ∈ (cx_c Γ).exceptionTable.toList, False) (hn : cx_nL Γ = 5) (hR : cx_fr Γ = 9 ∧ cx_lo Γ = 233) (hin : (cx_meth Γ).name = yX7_goodIn.name) : ∀ (a0 : Nat) (x1 : Int32) (s0 : AS), OK Γ 0 [(0, .ref a0), (1, .int x1)] [] (fX7_goodIn a0 x1 s0) s0 := by
  intro a0 x1 s0
  unfold fX7_goodIn
  refine ok_aload_n C 0 dX7_goodIn_0 rfl ?_
  refine ok_callV C T [] (F := fX7_notLoaded a0) (ctX7_notLoaded (C.2.2.2.2.2.2.2.2.1) a0) vlX7_320 viX7_notLoaded rfl rfl (by decide) rfl (by rw [hR.1, hR.2]; decide) (Nat.le_of_ble_eq_true rfl) dX7_goodIn_1 (ok_qI fun v1 s2 => ?_)
  refine ok_if_ne C 31 dX7_goodIn_4 (by decide) ?_ ?_
  · refine ok_iconst C (v := 0) dX7_goodIn_31 (by decide) ?_
    exact ok_ireturn C dX7_goodIn_32
  · refine ok_aload_n C 0 dX7_goodIn_7 rfl ?_
    refine ok_iload_n C 1 dX7_goodIn_8 rfl ?_
    refine ok_iconst C (v := 0) dX7_goodIn_9 (by decide) ?_
    refine ok_sipush C (v := 200) dX7_goodIn_10 (by decide) ?_
    refine ok_callS C T [.int x1, .int 0, .int 200] (F := fX7_in x1 0 200) (ctX7_in (C.2.2.2.2.2.2.2.2.1) x1 0 200) vlX7_143 kw_793 rfl (by rw [hR.1, hR.2]; decide) (Nat.le_of_ble_eq_true rfl) dX7_goodIn_13 (ok_qI fun v3 s4 => ?_)
    refine ok_if_ne C 23 dX7_goodIn_16 (by decide) ?_ ?_
    · refine ok_iconst C (v := 0) dX7_goodIn_23 (by decide) ?_
      exact oX7_goodIn_24 C T hn hR hin a0 x1 a0 0 s4
    · refine ok_iconst C (v := 1) dX7_goodIn_19 (by decide) ?_
      refine ok_goto C 24 dX7_goodIn_20 (by decide) ?_
      exact oX7_goodIn_24 C T hn hR hin a0 x1 a0 1 s4
theorem ctX7_goodIn {l : Launch} (hl : l.stackTraces = false) {D : va_G} {dA : Nat → ClassId} {B0 : Nat} (a0 : Nat) (x1 : Int32) : Ct l D dA B0 yX7_goodIn (.code yX7_goodIn cX7_goodIn 5 (some (.int)) :: ax_ALL) 9 233 [.ref a0, .int x1] (fX7_goodIn a0 x1) :=
  Ct.of hl (by decide +kernel) (Nat.le_of_ble_eq_true rfl) fun Γ C _ _ _ _ e5 e6 e7 T hin => oX7_goodIn C T e5 ⟨e6, e7⟩ hin a0 x1 _
/-! ChaseLockerModel.lockable()I -/
def fX7_lockable_37 (r13 : Nat → Int32 → Int32 → AS → Option AR) (a0 : Nat) (x2 : Int32) (t0 : Int32) (t1 : Int32) (s0 : AS) : Option AR :=
  lt (t0 ||| t1) (fun v1 =>
  lt (x2 + 1) (fun v2 =>
  r13 a0 v1 v2 s0))
def fX7_lockable_13  : Nat → Nat → Int32 → Int32 → AS → Option AR
  | 0, _, _, _, _ => none
  | n + 1, a0, x1, x2, s0 =>
    gI s0 a0 11 3 (fun v1 =>
    if v1 ≤ x2 then (
      some (.inl (some (.int x1)), s0))
    else (
      cV s0 a0 11 (fX7_chooses a0 x2 s0) (qI (fun v2 s3 =>
      if v2 = 0 then (
        fX7_lockable_37 (fX7_lockable_13 n) a0 x2 x1 0 s3)
      else (
        fX7_lockable_37 (fX7_lockable_13 n) a0 x2 x1 (1 <<< (x2 &&& 31)) s3)))))
def fX7_lockable (a0 : Nat) (s0 : AS) : Option AR :=
  cV s0 a0 11 (fX7_notLoaded a0 s0) (qI (fun v1 s2 =>
  if v1 = 0 then (
    fX7_lockable_13 FU a0 0 0 s2)
  else (
    some (.inl (some (.int 0)), s2))))
set_option maxHeartbeats 4000000 in
theorem oX7_lockable_37 {Γ : CX} (C : OKC Γ cX7_lockable RX7 (some (.int))) (T : ∀ z ∈ (cx_c Γ).exceptionTable.toList, False) (hn : cx_nL Γ = 3) (hR : cx_fr Γ = 9 ∧ cx_lo Γ = 238) (hin : (cx_meth Γ).name = yX7_lockable.name) {r13 : Nat → Int32 → Int32 → AS → Option AR} (h13 : ∀ (a0 : Nat) (x1 : Int32) (x2 : Int32) (s0 : AS), OK Γ 13 [(0, .ref a0), (1, .int x1), (2, .int x2)] [] (r13 a0 x1 x2 s0) s0) : ∀ (a0 : Nat) (x2 : Int32) (t0 : Int32) (t1 : Int32) (s0 : AS), OK Γ 37 [(0, .ref a0), (2, .int x2)] [.int t1, .int t0] (fX7_lockable_37 r13 a0 x2 t0 t1 s0) s0 := by
  intro a0 x2 t0 t1 s0
  unfold fX7_lockable_37
  refine ok_ior C dX7_lockable_37 ?_
  refine ok_lt (fun v1 => ?_)
  refine ok_istore_n C (i := 1) [(1, .int v1), (0, .ref a0), (2, .int x2)] dX7_lockable_38 rfl (by rw [hn]; decide) rfl ?_
  refine ok_iincL C 2 (c := 1) (fun v2 => [(2, .int v2), (1, .int v1), (0, .ref a0)]) dX7_lockable_39 rfl rfl (by rw [hn]; decide) (fun _ => rfl) (fun v2 => ?_)
  refine ok_goto C 13 dX7_lockable_42 (by decide) ?_
  refine OK.sub (lv' := [(0, .ref a0), (1, .int v1), (2, .int v2)]) [2, 1, 0] rfl ?_
  exact h13 a0 v1 v2 s0
set_option maxHeartbeats 4000000 in
theorem oX7_lockable_13 {Γ : CX} (C : OKC Γ cX7_lockable RX7 (some (.int))) (T : ∀ z ∈ (cx_c Γ).exceptionTable.toList, False) (hn : cx_nL Γ = 3) (hR : cx_fr Γ = 9 ∧ cx_lo Γ = 238) (hin : (cx_meth Γ).name = yX7_lockable.name) : ∀ (n : Nat) (a0 : Nat) (x1 : Int32) (x2 : Int32) (s0 : AS), OK Γ 13 [(0, .ref a0), (1, .int x1), (2, .int x2)] [] (fX7_lockable_13 n a0 x1 x2 s0) s0 := by
  intro n
  induction n with
  | zero => intro _ _ _ s0; exact OK.none
  | succ n ih =>
    intro a0 x1 x2 s0
    rw [fX7_lockable_13]
    refine ok_iload_n C 2 dX7_lockable_13 rfl ?_
    refine ok_aload_n C 0 dX7_lockable_14 rfl ?_
    refine ok_getI C frX7_154_11 dX7_lockable_15 (fun v1 => ?_)
    refine ok_icmp_ge C 45 dX7_lockable_18 (by decide) ?_ ?_
    · refine ok_iload_n C 1 dX7_lockable_45 rfl ?_
      exact ok_ireturn C dX7_lockable_46
    · refine ok_iload_n C 1 dX7_lockable_21 rfl ?_
      refine ok_aload_n C 0 dX7_lockable_22 rfl ?_
      refine ok_iload_n C 2 dX7_lockable_23 rfl ?_
      refine ok_callV C T [.int x2] (F := fX7_chooses a0 x2) (ctX7_chooses (C.2.2.2.2.2.2.2.2.1) a0 x2) vlX7_311 viX7_chooses rfl rfl (by decide) rfl (by rw [hR.1, hR.2]; decide) (Nat.le_of_ble_eq_true rfl) dX7_lockable_24 (ok_qI fun v2 s3 => ?_)
      refine ok_if_eq C 36 dX7_lockable_27 (by decide) ?_ ?_
      · refine ok_iconst C (v := 0) dX7_lockable_36 (by decide) ?_
        refine OK.sub (lv' := [(0, .ref a0), (2, .int x2)]) [0, 2] rfl ?_
        exact oX7_lockable_37 C T hn hR hin ih a0 x2 x1 0 s3
      · refine ok_iconst C (v := 1) dX7_lockable_30 (by decide) ?_
        refine ok_iload_n C 2 dX7_lockable_31 rfl ?_
        refine ok_ishl C dX7_lockable_32 ?_
        refine ok_goto C 37 dX7_lockable_33 (by decide) ?_
        refine OK.sub (lv' := [(0, .ref a0), (2, .int x2)]) [0, 2] rfl ?_
        exact oX7_lockable_37 C T hn hR hin ih a0 x2 x1 (1 <<< (x2 &&& 31)) s3
set_option maxHeartbeats 4000000 in
theorem oX7_lockable {Γ : CX} (C : OKC Γ cX7_lockable RX7 (some (.int))) (T : ∀ z ∈ (cx_c Γ).exceptionTable.toList, False) (hn : cx_nL Γ = 3) (hR : cx_fr Γ = 9 ∧ cx_lo Γ = 238) (hin : (cx_meth Γ).name = yX7_lockable.name) : ∀ (a0 : Nat) (s0 : AS), OK Γ 0 [(0, .ref a0)] [] (fX7_lockable a0 s0) s0 := by
  intro a0 s0
  unfold fX7_lockable
  refine ok_aload_n C 0 dX7_lockable_0 rfl ?_
  refine ok_callV C T [] (F := fX7_notLoaded a0) (ctX7_notLoaded (C.2.2.2.2.2.2.2.2.1) a0) vlX7_320 viX7_notLoaded rfl rfl (by decide) rfl (by rw [hR.1, hR.2]; decide) (Nat.le_of_ble_eq_true rfl) dX7_lockable_1 (ok_qI fun v1 s2 => ?_)
  refine ok_if_eq C 9 dX7_lockable_4 (by decide) ?_ ?_
  · refine ok_iconst C (v := 0) dX7_lockable_9 (by decide) ?_
    refine ok_istore_n C (i := 1) [(1, .int 0), (0, .ref a0)] dX7_lockable_10 rfl (by rw [hn]; decide) rfl ?_
    refine ok_iconst C (v := 0) dX7_lockable_11 (by decide) ?_
    refine ok_istore_n C (i := 2) [(2, .int 0), (1, .int 0), (0, .ref a0)] dX7_lockable_12 rfl (by rw [hn]; decide) rfl ?_
    refine OK.sub (lv' := [(0, .ref a0), (1, .int 0), (2, .int 0)]) [2, 1, 0] rfl ?_
    exact oX7_lockable_13 C T hn hR hin FU a0 0 0 s2
  · refine ok_iconst C (v := 0) dX7_lockable_7 (by decide) ?_
    exact ok_ireturn C dX7_lockable_8
theorem ctX7_lockable {l : Launch} (hl : l.stackTraces = false) {D : va_G} {dA : Nat → ClassId} {B0 : Nat} (a0 : Nat) : Ct l D dA B0 yX7_lockable (.code yX7_lockable cX7_lockable 3 (some (.int)) :: ax_ALL) 9 238 [.ref a0] (fX7_lockable a0) :=
  Ct.of hl (by decide +kernel) (Nat.le_of_ble_eq_true rfl) fun Γ C _ _ _ _ e5 e6 e7 T hin => oX7_lockable C T e5 ⟨e6, e7⟩ hin a0 _
/-! ChaseLockerModel.lockedAll()I -/
def fX7_lockedAll_35  (a0 : Nat) (s0 : AS) : Option AR :=
  cV s0 a0 11 (fX7_tightRows a0 s0) (qI (fun v1 s2 =>
  cV s2 a0 11 (fX7_fetchesBack a0 v1 s2) (qI (fun v3 s4 =>
  some (.inl (some (.int v3)), s4)))))
def fX7_lockedAll_15  : Nat → Nat → Int32 → AS → Option AR
  | 0, _, _, _ => none
  | n + 1, a0, x1, s0 =>
    gI s0 a0 11 3 (fun v1 =>
    if v1 ≤ x1 then (
      fX7_lockedAll_35 a0 s0)
    else (
      cV s0 a0 11 (fX7_locks a0 x1 s0) (qI (fun v2 s3 =>
      lt (x1 + 1) (fun v4 =>
      fX7_lockedAll_15 n a0 v4 s3)))))
def fX7_lockedAll (a0 : Nat) (s0 : AS) : Option AR :=
  cV s0 a0 11 (fX7_notLoaded a0 s0) (qI (fun v1 s2 =>
  if v1 = 0 then (
    cV s2 a0 11 (fX7_putsAside a0 s2) (qV (fun s3 =>
    fX7_lockedAll_15 FU a0 0 s3)))
  else (
    some (.inl (some (.int 0)), s2))))
set_option maxHeartbeats 4000000 in
theorem oX7_lockedAll_35 {Γ : CX} (C : OKC Γ cX7_lockedAll RX7 (some (.int))) (T : ∀ z ∈ (cx_c Γ).exceptionTable.toList, False) (hn : cx_nL Γ = 3) (hR : cx_fr Γ = 10 ∧ cx_lo Γ = 261) (hin : (cx_meth Γ).name = yX7_lockedAll.name) : ∀ (a0 : Nat) (s0 : AS), OK Γ 35 [(0, .ref a0)] [] (fX7_lockedAll_35  a0 s0) s0 := by
  intro a0 s0
  unfold fX7_lockedAll_35
  refine ok_aload_n C 0 dX7_lockedAll_35 rfl ?_
  refine ok_aload_n C 0 dX7_lockedAll_36 rfl ?_
  refine ok_callV C T [] (F := fX7_tightRows a0) (ctX7_tightRows (C.2.2.2.2.2.2.2.2.1) a0) vlX7_326 viX7_tightRows rfl rfl (by decide) rfl (by rw [hR.1, hR.2]; decide) (Nat.le_of_ble_eq_true rfl) dX7_lockedAll_37 (ok_qI fun v1 s2 => ?_)
  refine ok_callV C T [.int v1] (F := fX7_fetchesBack a0 v1) (ctX7_fetchesBack (C.2.2.2.2.2.2.2.2.1) a0 v1) vlX7_356 viX7_fetchesBack rfl rfl (by decide) rfl (by rw [hR.1, hR.2]; decide) (Nat.le_of_ble_eq_true rfl) dX7_lockedAll_40 (ok_qI fun v3 s4 => ?_)
  exact ok_ireturn C dX7_lockedAll_43
set_option maxHeartbeats 4000000 in
theorem oX7_lockedAll_15 {Γ : CX} (C : OKC Γ cX7_lockedAll RX7 (some (.int))) (T : ∀ z ∈ (cx_c Γ).exceptionTable.toList, False) (hn : cx_nL Γ = 3) (hR : cx_fr Γ = 10 ∧ cx_lo Γ = 261) (hin : (cx_meth Γ).name = yX7_lockedAll.name) : ∀ (n : Nat) (a0 : Nat) (x1 : Int32) (s0 : AS), OK Γ 15 [(0, .ref a0), (1, .int x1)] [] (fX7_lockedAll_15 n a0 x1 s0) s0 := by
  intro n
  induction n with
  | zero => intro _ _ s0; exact OK.none
  | succ n ih =>
    intro a0 x1 s0
    rw [fX7_lockedAll_15]
    refine ok_iload_n C 1 dX7_lockedAll_15 rfl ?_
    refine ok_aload_n C 0 dX7_lockedAll_16 rfl ?_
    refine ok_getI C frX7_154_11 dX7_lockedAll_17 (fun v1 => ?_)
    refine ok_icmp_ge C 35 dX7_lockedAll_20 (by decide) ?_ ?_
    · refine OK.sub (lv' := [(0, .ref a0)]) [0] rfl ?_
      exact oX7_lockedAll_35 C T hn hR hin a0 s0
    · refine ok_aload_n C 0 dX7_lockedAll_23 rfl ?_
      refine ok_iload_n C 1 dX7_lockedAll_24 rfl ?_
      refine ok_callV C T [.int x1] (F := fX7_locks a0 x1) (ctX7_locks (C.2.2.2.2.2.2.2.2.1) a0 x1) vlX7_368 viX7_locks rfl rfl (by decide) rfl (by rw [hR.1, hR.2]; decide) (Nat.le_of_ble_eq_true rfl) dX7_lockedAll_25 (ok_qI fun v2 s3 => ?_)
      refine ok_istore_n C (i := 2) [(2, .int v2), (0, .ref a0), (1, .int x1)] dX7_lockedAll_28 rfl (by rw [hn]; decide) rfl ?_
      refine ok_iincL C 2 (c := 1) (fun v4 => [(1, .int v4), (2, .int v2), (0, .ref a0)]) dX7_lockedAll_29 rfl rfl (by rw [hn]; decide) (fun _ => rfl) (fun v4 => ?_)
      refine ok_goto C 15 dX7_lockedAll_32 (by decide) ?_
      refine OK.sub (lv' := [(0, .ref a0), (1, .int v4)]) [2, 0] rfl ?_
      exact ih a0 v4 s3
set_option maxHeartbeats 4000000 in
theorem oX7_lockedAll {Γ : CX} (C : OKC Γ cX7_lockedAll RX7 (some (.int))) (T : ∀ z ∈ (cx_c Γ).exceptionTable.toList, False) (hn : cx_nL Γ = 3) (hR : cx_fr Γ = 10 ∧ cx_lo Γ = 261) (hin : (cx_meth Γ).name = yX7_lockedAll.name) : ∀ (a0 : Nat) (s0 : AS), OK Γ 0 [(0, .ref a0)] [] (fX7_lockedAll a0 s0) s0 := by
  intro a0 s0
  unfold fX7_lockedAll
  refine ok_aload_n C 0 dX7_lockedAll_0 rfl ?_
  refine ok_callV C T [] (F := fX7_notLoaded a0) (ctX7_notLoaded (C.2.2.2.2.2.2.2.2.1) a0) vlX7_320 viX7_notLoaded rfl rfl (by decide) rfl (by rw [hR.1, hR.2]; decide) (Nat.le_of_ble_eq_true rfl) dX7_lockedAll_1 (ok_qI fun v1 s2 => ?_)
  refine ok_if_eq C 9 dX7_lockedAll_4 (by decide) ?_ ?_
  · refine ok_aload_n C 0 dX7_lockedAll_9 rfl ?_
    refine ok_callV C T [] (F := fX7_putsAside a0) (ctX7_putsAside (C.2.2.2.2.2.2.2.2.1) a0) vlX7_353 viX7_putsAside rfl rfl (by decide) rfl (by rw [hR.1, hR.2]; decide) (Nat.le_of_ble_eq_true rfl) dX7_lockedAll_10 (ok_qV fun s3 => ?_)
    refine ok_iconst C (v := 0) dX7_lockedAll_13 (by decide) ?_
    refine ok_istore_n C (i := 1) [(1, .int 0), (0, .ref a0)] dX7_lockedAll_14 rfl (by rw [hn]; decide) rfl ?_
    refine OK.sub (lv' := [(0, .ref a0), (1, .int 0)]) [1, 0] rfl ?_
    exact oX7_lockedAll_15 C T hn hR hin FU a0 0 s3
  · refine ok_iconst C (v := 0) dX7_lockedAll_7 (by decide) ?_
    exact ok_ireturn C dX7_lockedAll_8
theorem ctX7_lockedAll {l : Launch} (hl : l.stackTraces = false) {D : va_G} {dA : Nat → ClassId} {B0 : Nat} (a0 : Nat) : Ct l D dA B0 yX7_lockedAll (.code yX7_lockedAll cX7_lockedAll 3 (some (.int)) :: ax_ALL) 10 261 [.ref a0] (fX7_lockedAll a0) :=
  Ct.of hl (by decide +kernel) (Nat.le_of_ble_eq_true rfl) fun Γ C _ _ _ _ e5 e6 e7 T hin => oX7_lockedAll C T e5 ⟨e6, e7⟩ hin a0 _
/-! ChaseLockerModel.says(I)V -/
def fX7_says (a0 : Nat) (x1 : Int32) (s0 : AS) : Option AR :=
  gR s0 a0 11 39 (fun q1 =>
  gI s0 a0 11 40 (fun v2 =>
  uI s0 q1 v2 x1 (fun s3 =>
  gI s3 a0 11 40 (fun v4 =>
  sI s3 a0 11 40 (v4 + 1) (fun s5 =>
  some (.inl none, s5))))))
set_option maxHeartbeats 4000000 in
theorem oX7_says {Γ : CX} (C : OKC Γ cX7_says RX7 none) (T : ∀ z ∈ (cx_c Γ).exceptionTable.toList, False) (hn : cx_nL Γ = 2) (hR : cx_fr Γ = 1 ∧ cx_lo Γ = 60) (hin : (cx_meth Γ).name = yX7_says.name) : ∀ (a0 : Nat) (x1 : Int32) (s0 : AS), OK Γ 0 [(0, .ref a0), (1, .int x1)] [] (fX7_says a0 x1 s0) s0 := by
  intro a0 x1 s0
  unfold fX7_says
  refine ok_aload_n C 0 dX7_says_0 rfl ?_
  refine ok_getR C frX7_64_11 dX7_says_1 (fun q1 => ?_)
  refine ok_aload_n C 0 dX7_says_4 rfl ?_
  refine ok_getI C frX7_371_11 dX7_says_5 (fun v2 => ?_)
  refine ok_iload_n C 1 dX7_says_8 rfl ?_
  refine ok_iast C dX7_says_9 (fun s3 _ => ?_)
  refine ok_aload_n C 0 dX7_says_10 rfl ?_
  refine ok_dup C dX7_says_11 rfl ?_
  refine ok_getI C frX7_371_11 dX7_says_12 (fun v4 => ?_)
  refine ok_iconst C (v := 1) dX7_says_15 (by decide) ?_
  refine ok_iadd C dX7_says_16 ?_
  refine ok_putI C flX7_371_11 dX7_says_17 (fun s5 _ => ?_)
  exact ok_vreturn C dX7_says_20
theorem ctX7_says {l : Launch} (hl : l.stackTraces = false) {D : va_G} {dA : Nat → ClassId} {B0 : Nat} (a0 : Nat) (x1 : Int32) : Ct l D dA B0 yX7_says (.code yX7_says cX7_says 2 (none) :: ax_ALL) 1 60 [.ref a0, .int x1] (fX7_says a0 x1) :=
  Ct.of hl (by decide +kernel) (Nat.le_of_ble_eq_true rfl) fun Γ C _ _ _ _ e5 e6 e7 T hin => oX7_says C T e5 ⟨e6, e7⟩ hin a0 x1 _
/-! ChaseLockerModel.saysNumber(I)V -/
def fX7_saysNumber_18  : Nat → Nat → Int32 → Int32 → AS → Option AR
  | 0, _, _, _, _ => none
  | n + 1, a0, x1, x2, s0 =>
    if x2 ≤ 0 then (
      some (.inl none, s0))
    else (
      if x2 = 0 then none else (
      if (10 : Int32) = 0 then none else (
      cV s0 a0 11 (fX7_says a0 (48 + ((x1 / x2) - (x1 / x2) / 10 * 10)) s0) (qV (fun s1 =>
      if (10 : Int32) = 0 then none else (
      lt (x2 / 10) (fun v2 =>
      fX7_saysNumber_18 n a0 x1 v2 s1)))))))
def fX7_saysNumber_2  : Nat → Nat → Int32 → Int32 → AS → Option AR
  | 0, _, _, _, _ => none
  | n + 1, a0, x1, x2, s0 =>
    if x2 = 0 then none else (
    if (x1 / x2) < (10 : Int32) then (
      fX7_saysNumber_18 FU a0 x1 x2 s0)
    else (
      lt (10 * x2) (fun v1 =>
      fX7_saysNumber_2 n a0 x1 v1 s0)))
def fX7_saysNumber (a0 : Nat) (x1 : Int32) (s0 : AS) : Option AR :=
  fX7_saysNumber_2 FU a0 x1 1 s0
set_option maxHeartbeats 4000000 in
theorem oX7_saysNumber_18 {Γ : CX} (C : OKC Γ cX7_saysNumber RX7 none) (T : ∀ z ∈ (cx_c Γ).exceptionTable.toList, False) (hn : cx_nL Γ = 3) (hR : cx_fr Γ = 2 ∧ cx_lo Γ = 81) (hin : (cx_meth Γ).name = yX7_saysNumber.name) : ∀ (n : Nat) (a0 : Nat) (x1 : Int32) (x2 : Int32) (s0 : AS), OK Γ 18 [(0, .ref a0), (1, .int x1), (2, .int x2)] [] (fX7_saysNumber_18 n a0 x1 x2 s0) s0 := by
  intro n
  induction n with
  | zero => intro _ _ _ s0; exact OK.none
  | succ n ih =>
    intro a0 x1 x2 s0
    rw [fX7_saysNumber_18]
    refine ok_iload_n C 2 dX7_saysNumber_18 rfl ?_
    refine ok_if_le C 43 dX7_saysNumber_19 (by decide) ?_ ?_
    · exact ok_vreturn C dX7_saysNumber_43
    · refine ok_aload_n C 0 dX7_saysNumber_22 rfl ?_
      refine ok_bipush C (v := 48) dX7_saysNumber_23 (by decide) ?_
      refine ok_iload_n C 1 dX7_saysNumber_25 rfl ?_
      refine ok_iload_n C 2 dX7_saysNumber_26 rfl ?_
      refine ok_idiv C dX7_saysNumber_27 ?_
      refine ok_bipush C (v := 10) dX7_saysNumber_28 (by decide) ?_
      refine ok_irem C dX7_saysNumber_30 ?_
      refine ok_iadd C dX7_saysNumber_31 ?_
      refine ok_callV C T [.int (48 + ((x1 / x2) - (x1 / x2) / 10 * 10))] (F := fX7_says a0 (48 + ((x1 / x2) - (x1 / x2) / 10 * 10))) (ctX7_says (C.2.2.2.2.2.2.2.2.1) a0 (48 + ((x1 / x2) - (x1 / x2) / 10 * 10))) vlX7_374 viX7_says rfl rfl (by decide) rfl (by rw [hR.1, hR.2]; decide) (Nat.le_of_ble_eq_true rfl) dX7_saysNumber_32 (ok_qV fun s1 => ?_)
      refine ok_iload_n C 2 dX7_saysNumber_35 rfl ?_
      refine ok_bipush C (v := 10) dX7_saysNumber_36 (by decide) ?_
      refine ok_idiv C dX7_saysNumber_38 ?_
      refine ok_lt (fun v2 => ?_)
      refine ok_istore_n C (i := 2) [(2, .int v2), (0, .ref a0), (1, .int x1)] dX7_saysNumber_39 rfl (by rw [hn]; decide) rfl ?_
      refine ok_goto C 18 dX7_saysNumber_40 (by decide) ?_
      refine OK.sub (lv' := [(0, .ref a0), (1, .int x1), (2, .int v2)]) [1, 2, 0] rfl ?_
      exact ih a0 x1 v2 s1
set_option maxHeartbeats 4000000 in
theorem oX7_saysNumber_2 {Γ : CX} (C : OKC Γ cX7_saysNumber RX7 none) (T : ∀ z ∈ (cx_c Γ).exceptionTable.toList, False) (hn : cx_nL Γ = 3) (hR : cx_fr Γ = 2 ∧ cx_lo Γ = 81) (hin : (cx_meth Γ).name = yX7_saysNumber.name) : ∀ (n : Nat) (a0 : Nat) (x1 : Int32) (x2 : Int32) (s0 : AS), OK Γ 2 [(0, .ref a0), (1, .int x1), (2, .int x2)] [] (fX7_saysNumber_2 n a0 x1 x2 s0) s0 := by
  intro n
  induction n with
  | zero => intro _ _ _ s0; exact OK.none
  | succ n ih =>
    intro a0 x1 x2 s0
    rw [fX7_saysNumber_2]
    refine ok_iload_n C 1 dX7_saysNumber_2 rfl ?_
    refine ok_iload_n C 2 dX7_saysNumber_3 rfl ?_
    refine ok_idiv C dX7_saysNumber_4 ?_
    refine ok_bipush C (v := 10) dX7_saysNumber_5 (by decide) ?_
    refine ok_icmp_lt C 18 dX7_saysNumber_7 (by decide) ?_ ?_
    · exact oX7_saysNumber_18 C T hn hR hin FU a0 x1 x2 s0
    · refine ok_bipush C (v := 10) dX7_saysNumber_10 (by decide) ?_
      refine ok_iload_n C 2 dX7_saysNumber_12 rfl ?_
      refine ok_imul C dX7_saysNumber_13 ?_
      refine ok_lt (fun v1 => ?_)
      refine ok_istore_n C (i := 2) [(2, .int v1), (0, .ref a0), (1, .int x1)] dX7_saysNumber_14 rfl (by rw [hn]; decide) rfl ?_
      refine ok_goto C 2 dX7_saysNumber_15 (by decide) ?_
      refine OK.sub (lv' := [(0, .ref a0), (1, .int x1), (2, .int v1)]) [1, 2, 0] rfl ?_
      exact ih a0 x1 v1 s0
set_option maxHeartbeats 4000000 in
theorem oX7_saysNumber {Γ : CX} (C : OKC Γ cX7_saysNumber RX7 none) (T : ∀ z ∈ (cx_c Γ).exceptionTable.toList, False) (hn : cx_nL Γ = 3) (hR : cx_fr Γ = 2 ∧ cx_lo Γ = 81) (hin : (cx_meth Γ).name = yX7_saysNumber.name) : ∀ (a0 : Nat) (x1 : Int32) (s0 : AS), OK Γ 0 [(0, .ref a0), (1, .int x1)] [] (fX7_saysNumber a0 x1 s0) s0 := by
  intro a0 x1 s0
  unfold fX7_saysNumber
  refine ok_iconst C (v := 1) dX7_saysNumber_0 (by decide) ?_
  refine ok_istore_n C (i := 2) [(2, .int 1), (0, .ref a0), (1, .int x1)] dX7_saysNumber_1 rfl (by rw [hn]; decide) rfl ?_
  refine OK.sub (lv' := [(0, .ref a0), (1, .int x1), (2, .int 1)]) [1, 2, 0] rfl ?_
  exact oX7_saysNumber_2 C T hn hR hin FU a0 x1 1 s0
theorem ctX7_saysNumber {l : Launch} (hl : l.stackTraces = false) {D : va_G} {dA : Nat → ClassId} {B0 : Nat} (a0 : Nat) (x1 : Int32) : Ct l D dA B0 yX7_saysNumber (.code yX7_saysNumber cX7_saysNumber 3 (none) :: ax_ALL) 2 81 [.ref a0, .int x1] (fX7_saysNumber a0 x1) :=
  Ct.of hl (by decide +kernel) (Nat.le_of_ble_eq_true rfl) fun Γ C _ _ _ _ e5 e6 e7 T hin => oX7_saysNumber C T e5 ⟨e6, e7⟩ hin a0 x1 _
/-! ChaseLockerModel.saysBlank()V -/
def fX7_saysBlank (a0 : Nat) (s0 : AS) : Option AR :=
  gI s0 a0 11 40 (fun v1 =>
  if v1 ≤ 0 then (
    some (.inl none, s0))
  else (
    cV s0 a0 11 (fX7_says a0 32 s0) (qV (fun s2 =>
    some (.inl none, s2)))))
set_option maxHeartbeats 4000000 in
theorem oX7_saysBlank {Γ : CX} (C : OKC Γ cX7_saysBlank RX7 none) (T : ∀ z ∈ (cx_c Γ).exceptionTable.toList, False) (hn : cx_nL Γ = 1) (hR : cx_fr Γ = 2 ∧ cx_lo Γ = 81) (hin : (cx_meth Γ).name = yX7_saysBlank.name) : ∀ (a0 : Nat) (s0 : AS), OK Γ 0 [(0, .ref a0)] [] (fX7_saysBlank a0 s0) s0 := by
  intro a0 s0
  unfold fX7_saysBlank
  refine ok_aload_n C 0 dX7_saysBlank_0 rfl ?_
  refine ok_getI C frX7_371_11 dX7_saysBlank_1 (fun v1 => ?_)
  refine ok_if_le C 13 dX7_saysBlank_4 (by decide) ?_ ?_
  · exact ok_vreturn C dX7_saysBlank_13
  · refine ok_aload_n C 0 dX7_saysBlank_7 rfl ?_
    refine ok_bipush C (v := 32) dX7_saysBlank_8 (by decide) ?_
    refine ok_callV C T [.int 32] (F := fX7_says a0 32) (ctX7_says (C.2.2.2.2.2.2.2.2.1) a0 32) vlX7_374 viX7_says rfl rfl (by decide) rfl (by rw [hR.1, hR.2]; decide) (Nat.le_of_ble_eq_true rfl) dX7_saysBlank_10 (ok_qV fun s2 => ?_)
    exact ok_vreturn C dX7_saysBlank_13
theorem ctX7_saysBlank {l : Launch} (hl : l.stackTraces = false) {D : va_G} {dA : Nat → ClassId} {B0 : Nat} (a0 : Nat) : Ct l D dA B0 yX7_saysBlank (.code yX7_saysBlank cX7_saysBlank 1 (none) :: ax_ALL) 2 81 [.ref a0] (fX7_saysBlank a0) :=
  Ct.of hl (by decide +kernel) (Nat.le_of_ble_eq_true rfl) fun Γ C _ _ _ _ e5 e6 e7 T hin => oX7_saysBlank C T e5 ⟨e6, e7⟩ hin a0 _
/-! ChaseLockerModel.saysKind(I)V -/
def fX7_saysKind_17  (a0 : Nat) (x1 : Int32) (t0 : Nat) (t1 : Int32) (s0 : AS) : Option AR :=
  cV s0 t0 11 (fX7_says t0 t1 s0) (qV (fun s1 =>
  gR s1 a0 11 11 (fun q2 =>
  aI s1 q2 100 x1 (fun v3 =>
  cV s1 a0 11 (fX7_saysNumber a0 v3 s1) (qV (fun s4 =>
  some (.inl none, s4)))))))
def fX7_saysKind (a0 : Nat) (x1 : Int32) (s0 : AS) : Option AR :=
  gR s0 a0 11 10 (fun q1 =>
  aI s0 q1 101 x1 (fun v2 =>
  if v2 = 0 then (
    fX7_saysKind_17 a0 x1 a0 119 s0)
  else (
    fX7_saysKind_17 a0 x1 a0 109 s0)))
set_option maxHeartbeats 4000000 in
theorem oX7_saysKind_17 {Γ : CX} (C : OKC Γ cX7_saysKind RX7 none) (T : ∀ z ∈ (cx_c Γ).exceptionTable.toList, False) (hn : cx_nL Γ = 2) (hR : cx_fr Γ = 3 ∧ cx_lo Γ = 103) (hin : (cx_meth Γ).name = yX7_saysKind.name) : ∀ (a0 : Nat) (x1 : Int32) (t0 : Nat) (t1 : Int32) (s0 : AS), OK Γ 17 [(0, .ref a0), (1, .int x1)] [.int t1, .ref t0] (fX7_saysKind_17  a0 x1 t0 t1 s0) s0 := by
  intro a0 x1 t0 t1 s0
  unfold fX7_saysKind_17
  refine ok_callV C T [.int t1] (F := fX7_says t0 t1) (ctX7_says (C.2.2.2.2.2.2.2.2.1) t0 t1) vlX7_374 viX7_says rfl rfl (by decide) rfl (by rw [hR.1, hR.2]; decide) (Nat.le_of_ble_eq_true rfl) dX7_saysKind_17 (ok_qV fun s1 => ?_)
  refine ok_aload_n C 0 dX7_saysKind_20 rfl ?_
  refine ok_aload_n C 0 dX7_saysKind_21 rfl ?_
  refine ok_getR C frX7_13_11 dX7_saysKind_22 (fun q2 => ?_)
  refine ok_iload_n C 1 dX7_saysKind_25 rfl ?_
  refine ok_iald C dX7_saysKind_26 (fun v3 => ?_)
  refine ok_callV C T [.int v3] (F := fX7_saysNumber a0 v3) (ctX7_saysNumber (C.2.2.2.2.2.2.2.2.1) a0 v3) vlX7_377 viX7_saysNumber rfl rfl (by decide) rfl (by rw [hR.1, hR.2]; decide) (Nat.le_of_ble_eq_true rfl) dX7_saysKind_27 (ok_qV fun s4 => ?_)
  exact ok_vreturn C dX7_saysKind_30
set_option maxHeartbeats 4000000 in
theorem oX7_saysKind {Γ : CX} (C : OKC Γ cX7_saysKind RX7 none) (T : ∀ z ∈ (cx_c Γ).exceptionTable.toList, False) (hn : cx_nL Γ = 2) (hR : cx_fr Γ = 3 ∧ cx_lo Γ = 103) (hin : (cx_meth Γ).name = yX7_saysKind.name) : ∀ (a0 : Nat) (x1 : Int32) (s0 : AS), OK Γ 0 [(0, .ref a0), (1, .int x1)] [] (fX7_saysKind a0 x1 s0) s0 := by
  intro a0 x1 s0
  unfold fX7_saysKind
  refine ok_aload_n C 0 dX7_saysKind_0 rfl ?_
  refine ok_aload_n C 0 dX7_saysKind_1 rfl ?_
  refine ok_getR C frX7_7_11 dX7_saysKind_2 (fun q1 => ?_)
  refine ok_iload_n C 1 dX7_saysKind_5 rfl ?_
  refine ok_zald C dX7_saysKind_6 (fun v2 => ?_)
  refine ok_if_eq C 15 dX7_saysKind_7 (by decide) ?_ ?_
  · refine ok_bipush C (v := 119) dX7_saysKind_15 (by decide) ?_
    exact oX7_saysKind_17 C T hn hR hin a0 x1 a0 119 s0
  · refine ok_bipush C (v := 109) dX7_saysKind_10 (by decide) ?_
    refine ok_goto C 17 dX7_saysKind_12 (by decide) ?_
    exact oX7_saysKind_17 C T hn hR hin a0 x1 a0 109 s0
theorem ctX7_saysKind {l : Launch} (hl : l.stackTraces = false) {D : va_G} {dA : Nat → ClassId} {B0 : Nat} (a0 : Nat) (x1 : Int32) : Ct l D dA B0 yX7_saysKind (.code yX7_saysKind cX7_saysKind 2 (none) :: ax_ALL) 3 103 [.ref a0, .int x1] (fX7_saysKind a0 x1) :=
  Ct.of hl (by decide +kernel) (Nat.le_of_ble_eq_true rfl) fun Γ C _ _ _ _ e5 e6 e7 T hin => oX7_saysKind C T e5 ⟨e6, e7⟩ hin a0 x1 _
/-! ChaseLockerModel.saysQuoin(I)V -/
def fX7_saysQuoin (a0 : Nat) (x1 : Int32) (s0 : AS) : Option AR :=
  if x1 = (-1 : Int32) then (
    some (.inl none, s0))
  else (
    cV s0 a0 11 (fX7_saysBlank a0 s0) (qV (fun s1 =>
    cV s1 a0 11 (fX7_says a0 113 s1) (qV (fun s2 =>
    cV s2 a0 11 (fX7_saysNumber a0 x1 s2) (qV (fun s3 =>
    some (.inl none, s3))))))))
set_option maxHeartbeats 4000000 in
theorem oX7_saysQuoin {Γ : CX} (C : OKC Γ cX7_saysQuoin RX7 none) (T : ∀ z ∈ (cx_c Γ).exceptionTable.toList, False) (hn : cx_nL Γ = 2) (hR : cx_fr Γ = 3 ∧ cx_lo Γ = 103) (hin : (cx_meth Γ).name = yX7_saysQuoin.name) : ∀ (a0 : Nat) (x1 : Int32) (s0 : AS), OK Γ 0 [(0, .ref a0), (1, .int x1)] [] (fX7_saysQuoin a0 x1 s0) s0 := by
  intro a0 x1 s0
  unfold fX7_saysQuoin
  refine ok_iload_n C 1 dX7_saysQuoin_0 rfl ?_
  refine ok_iconst C (v := (-1)) dX7_saysQuoin_1 (by decide) ?_
  refine ok_icmp_eq C 20 dX7_saysQuoin_2 (by decide) ?_ ?_
  · exact ok_vreturn C dX7_saysQuoin_20
  · refine ok_aload_n C 0 dX7_saysQuoin_5 rfl ?_
    refine ok_callV C T [] (F := fX7_saysBlank a0) (ctX7_saysBlank (C.2.2.2.2.2.2.2.2.1) a0) vlX7_380 viX7_saysBlank rfl rfl (by decide) rfl (by rw [hR.1, hR.2]; decide) (Nat.le_of_ble_eq_true rfl) dX7_saysQuoin_6 (ok_qV fun s1 => ?_)
    refine ok_aload_n C 0 dX7_saysQuoin_9 rfl ?_
    refine ok_bipush C (v := 113) dX7_saysQuoin_10 (by decide) ?_
    refine ok_callV C T [.int 113] (F := fX7_says a0 113) (ctX7_says (C.2.2.2.2.2.2.2.2.1) a0 113) vlX7_374 viX7_says rfl rfl (by decide) rfl (by rw [hR.1, hR.2]; decide) (Nat.le_of_ble_eq_true rfl) dX7_saysQuoin_12 (ok_qV fun s2 => ?_)
    refine ok_aload_n C 0 dX7_saysQuoin_15 rfl ?_
    refine ok_iload_n C 1 dX7_saysQuoin_16 rfl ?_
    refine ok_callV C T [.int x1] (F := fX7_saysNumber a0 x1) (ctX7_saysNumber (C.2.2.2.2.2.2.2.2.1) a0 x1) vlX7_377 viX7_saysNumber rfl rfl (by decide) rfl (by rw [hR.1, hR.2]; decide) (Nat.le_of_ble_eq_true rfl) dX7_saysQuoin_17 (ok_qV fun s3 => ?_)
    exact ok_vreturn C dX7_saysQuoin_20
theorem ctX7_saysQuoin {l : Launch} (hl : l.stackTraces = false) {D : va_G} {dA : Nat → ClassId} {B0 : Nat} (a0 : Nat) (x1 : Int32) : Ct l D dA B0 yX7_saysQuoin (.code yX7_saysQuoin cX7_saysQuoin 2 (none) :: ax_ALL) 3 103 [.ref a0, .int x1] (fX7_saysQuoin a0 x1) :=
  Ct.of hl (by decide +kernel) (Nat.le_of_ble_eq_true rfl) fun Γ C _ _ _ _ e5 e6 e7 T hin => oX7_saysQuoin C T e5 ⟨e6, e7⟩ hin a0 x1 _
/-! ChaseLockerModel.writeRow(I)I -/
def fX7_writeRow_96  (a0 : Nat) (x1 : Int32) (s0 : AS) : Option AR :=
  cV s0 a0 11 (fX7_of a0 x1 2 s0) (qI (fun v1 s2 =>
  cV s2 a0 11 (fX7_saysQuoin a0 v1 s2) (qV (fun s3 =>
  gI s3 a0 11 40 (fun v4 =>
  some (.inl (some (.int v4)), s3))))))
def fX7_writeRow_63  : Nat → Nat → Int32 → Int32 → AS → Option AR
  | 0, _, _, _, _ => none
  | n + 1, a0, x1, x2, s0 =>
    cV s0 a0 11 (fX7_of a0 x1 1 s0) (qI (fun v1 s2 =>
    if v1 ≤ x2 then (
      fX7_writeRow_96 a0 x1 s2)
    else (
      cV s2 a0 11 (fX7_saysBlank a0 s2) (qV (fun s3 =>
      cV s3 a0 11 (fX7_of a0 x1 (11 + x2) s3) (qI (fun v4 s5 =>
      cV s5 a0 11 (fX7_saysKind a0 v4 s5) (qV (fun s6 =>
      lt (x2 + 1) (fun v7 =>
      fX7_writeRow_63 n a0 x1 v7 s6))))))))))
def fX7_writeRow_61  (a0 : Nat) (x1 : Int32) (s0 : AS) : Option AR :=
  fX7_writeRow_63 FU a0 x1 0 s0
def fX7_writeRow_17  : Nat → Nat → Int32 → Int32 → AS → Option AR
  | 0, _, _, _, _ => none
  | n + 1, a0, x1, x2, s0 =>
    cV s0 a0 11 (fX7_of a0 x1 0 s0) (qI (fun v1 s2 =>
    if v1 ≤ x2 then (
      fX7_writeRow_61 a0 x1 s2)
    else (
      cV s2 a0 11 (fX7_saysBlank a0 s2) (qV (fun s3 =>
      cV s3 a0 11 (fX7_says a0 91 s3) (qV (fun s4 =>
      cV s4 a0 11 (fX7_of a0 x1 (5 + x2) s4) (qI (fun v5 s6 =>
      cV s6 a0 11 (fX7_saysNumber a0 v5 s6) (qV (fun s7 =>
      cV s7 a0 11 (fX7_says a0 93 s7) (qV (fun s8 =>
      lt (x2 + 1) (fun v9 =>
      fX7_writeRow_17 n a0 x1 v9 s8))))))))))))))
def fX7_writeRow (a0 : Nat) (x1 : Int32) (s0 : AS) : Option AR :=
  cV s0 a0 11 (fX7_noRow a0 x1 s0) (qI (fun v1 s2 =>
  if v1 = 0 then (
    sI s2 a0 11 40 0 (fun s3 =>
    fX7_writeRow_17 FU a0 x1 0 s3))
  else (
    some (.inl (some (.int 0)), s2))))
set_option maxHeartbeats 4000000 in
theorem oX7_writeRow_96 {Γ : CX} (C : OKC Γ cX7_writeRow RX7 (some (.int))) (T : ∀ z ∈ (cx_c Γ).exceptionTable.toList, False) (hn : cx_nL Γ = 3) (hR : cx_fr Γ = 4 ∧ cx_lo Γ = 124) (hin : (cx_meth Γ).name = yX7_writeRow.name) : ∀ (a0 : Nat) (x1 : Int32) (s0 : AS), OK Γ 96 [(0, .ref a0), (1, .int x1)] [] (fX7_writeRow_96  a0 x1 s0) s0 := by
  intro a0 x1 s0
  unfold fX7_writeRow_96
  refine ok_aload_n C 0 dX7_writeRow_96 rfl ?_
  refine ok_aload_n C 0 dX7_writeRow_97 rfl ?_
  refine ok_iload_n C 1 dX7_writeRow_98 rfl ?_
  refine ok_iconst C (v := 2) dX7_writeRow_99 (by decide) ?_
  refine ok_callV C T [.int x1, .int 2] (F := fX7_of a0 x1 2) (ctX7_of (C.2.2.2.2.2.2.2.2.1) a0 x1 2) vlX7_189 viX7_of rfl rfl (by decide) rfl (by rw [hR.1, hR.2]; decide) (Nat.le_of_ble_eq_true rfl) dX7_writeRow_100 (ok_qI fun v1 s2 => ?_)
  refine ok_callV C T [.int v1] (F := fX7_saysQuoin a0 v1) (ctX7_saysQuoin (C.2.2.2.2.2.2.2.2.1) a0 v1) vlX7_386 viX7_saysQuoin rfl rfl (by decide) rfl (by rw [hR.1, hR.2]; decide) (Nat.le_of_ble_eq_true rfl) dX7_writeRow_103 (ok_qV fun s3 => ?_)
  refine ok_aload_n C 0 dX7_writeRow_106 rfl ?_
  refine ok_getI C frX7_371_11 dX7_writeRow_107 (fun v4 => ?_)
  exact ok_ireturn C dX7_writeRow_110
set_option maxHeartbeats 4000000 in
theorem oX7_writeRow_63 {Γ : CX} (C : OKC Γ cX7_writeRow RX7 (some (.int))) (T : ∀ z ∈ (cx_c Γ).exceptionTable.toList, False) (hn : cx_nL Γ = 3) (hR : cx_fr Γ = 4 ∧ cx_lo Γ = 124) (hin : (cx_meth Γ).name = yX7_writeRow.name) : ∀ (n : Nat) (a0 : Nat) (x1 : Int32) (x2 : Int32) (s0 : AS), OK Γ 63 [(0, .ref a0), (1, .int x1), (2, .int x2)] [] (fX7_writeRow_63 n a0 x1 x2 s0) s0 := by
  intro n
  induction n with
  | zero => intro _ _ _ s0; exact OK.none
  | succ n ih =>
    intro a0 x1 x2 s0
    rw [fX7_writeRow_63]
    refine ok_iload_n C 2 dX7_writeRow_63 rfl ?_
    refine ok_aload_n C 0 dX7_writeRow_64 rfl ?_
    refine ok_iload_n C 1 dX7_writeRow_65 rfl ?_
    refine ok_iconst C (v := 1) dX7_writeRow_66 (by decide) ?_
    refine ok_callV C T [.int x1, .int 1] (F := fX7_of a0 x1 1) (ctX7_of (C.2.2.2.2.2.2.2.2.1) a0 x1 1) vlX7_189 viX7_of rfl rfl (by decide) rfl (by rw [hR.1, hR.2]; decide) (Nat.le_of_ble_eq_true rfl) dX7_writeRow_67 (ok_qI fun v1 s2 => ?_)
    refine ok_icmp_ge C 96 dX7_writeRow_70 (by decide) ?_ ?_
    · refine OK.sub (lv' := [(0, .ref a0), (1, .int x1)]) [0, 1] rfl ?_
      exact oX7_writeRow_96 C T hn hR hin a0 x1 s2
    · refine ok_aload_n C 0 dX7_writeRow_73 rfl ?_
      refine ok_callV C T [] (F := fX7_saysBlank a0) (ctX7_saysBlank (C.2.2.2.2.2.2.2.2.1) a0) vlX7_380 viX7_saysBlank rfl rfl (by decide) rfl (by rw [hR.1, hR.2]; decide) (Nat.le_of_ble_eq_true rfl) dX7_writeRow_74 (ok_qV fun s3 => ?_)
      refine ok_aload_n C 0 dX7_writeRow_77 rfl ?_
      refine ok_aload_n C 0 dX7_writeRow_78 rfl ?_
      refine ok_iload_n C 1 dX7_writeRow_79 rfl ?_
      refine ok_bipush C (v := 11) dX7_writeRow_80 (by decide) ?_
      refine ok_iload_n C 2 dX7_writeRow_82 rfl ?_
      refine ok_iadd C dX7_writeRow_83 ?_
      refine ok_callV C T [.int x1, .int (11 + x2)] (F := fX7_of a0 x1 (11 + x2)) (ctX7_of (C.2.2.2.2.2.2.2.2.1) a0 x1 (11 + x2)) vlX7_189 viX7_of rfl rfl (by decide) rfl (by rw [hR.1, hR.2]; decide) (Nat.le_of_ble_eq_true rfl) dX7_writeRow_84 (ok_qI fun v4 s5 => ?_)
      refine ok_callV C T [.int v4] (F := fX7_saysKind a0 v4) (ctX7_saysKind (C.2.2.2.2.2.2.2.2.1) a0 v4) vlX7_383 viX7_saysKind rfl rfl (by decide) rfl (by rw [hR.1, hR.2]; decide) (Nat.le_of_ble_eq_true rfl) dX7_writeRow_87 (ok_qV fun s6 => ?_)
      refine ok_iincL C 2 (c := 1) (fun v7 => [(2, .int v7), (0, .ref a0), (1, .int x1)]) dX7_writeRow_90 rfl rfl (by rw [hn]; decide) (fun _ => rfl) (fun v7 => ?_)
      refine ok_goto C 63 dX7_writeRow_93 (by decide) ?_
      refine OK.sub (lv' := [(0, .ref a0), (1, .int x1), (2, .int v7)]) [1, 2, 0] rfl ?_
      exact ih a0 x1 v7 s6
set_option maxHeartbeats 4000000 in
theorem oX7_writeRow_61 {Γ : CX} (C : OKC Γ cX7_writeRow RX7 (some (.int))) (T : ∀ z ∈ (cx_c Γ).exceptionTable.toList, False) (hn : cx_nL Γ = 3) (hR : cx_fr Γ = 4 ∧ cx_lo Γ = 124) (hin : (cx_meth Γ).name = yX7_writeRow.name) : ∀ (a0 : Nat) (x1 : Int32) (s0 : AS), OK Γ 61 [(0, .ref a0), (1, .int x1)] [] (fX7_writeRow_61  a0 x1 s0) s0 := by
  intro a0 x1 s0
  unfold fX7_writeRow_61
  refine ok_iconst C (v := 0) dX7_writeRow_61 (by decide) ?_
  refine ok_istore_n C (i := 2) [(2, .int 0), (0, .ref a0), (1, .int x1)] dX7_writeRow_62 rfl (by rw [hn]; decide) rfl ?_
  refine OK.sub (lv' := [(0, .ref a0), (1, .int x1), (2, .int 0)]) [1, 2, 0] rfl ?_
  exact oX7_writeRow_63 C T hn hR hin FU a0 x1 0 s0
set_option maxHeartbeats 4000000 in
theorem oX7_writeRow_17 {Γ : CX} (C : OKC Γ cX7_writeRow RX7 (some (.int))) (T : ∀ z ∈ (cx_c Γ).exceptionTable.toList, False) (hn : cx_nL Γ = 3) (hR : cx_fr Γ = 4 ∧ cx_lo Γ = 124) (hin : (cx_meth Γ).name = yX7_writeRow.name) : ∀ (n : Nat) (a0 : Nat) (x1 : Int32) (x2 : Int32) (s0 : AS), OK Γ 17 [(0, .ref a0), (1, .int x1), (2, .int x2)] [] (fX7_writeRow_17 n a0 x1 x2 s0) s0 := by
  intro n
  induction n with
  | zero => intro _ _ _ s0; exact OK.none
  | succ n ih =>
    intro a0 x1 x2 s0
    rw [fX7_writeRow_17]
    refine ok_iload_n C 2 dX7_writeRow_17 rfl ?_
    refine ok_aload_n C 0 dX7_writeRow_18 rfl ?_
    refine ok_iload_n C 1 dX7_writeRow_19 rfl ?_
    refine ok_iconst C (v := 0) dX7_writeRow_20 (by decide) ?_
    refine ok_callV C T [.int x1, .int 0] (F := fX7_of a0 x1 0) (ctX7_of (C.2.2.2.2.2.2.2.2.1) a0 x1 0) vlX7_189 viX7_of rfl rfl (by decide) rfl (by rw [hR.1, hR.2]; decide) (Nat.le_of_ble_eq_true rfl) dX7_writeRow_21 (ok_qI fun v1 s2 => ?_)
    refine ok_icmp_ge C 61 dX7_writeRow_24 (by decide) ?_ ?_
    · refine OK.sub (lv' := [(0, .ref a0), (1, .int x1)]) [0, 1] rfl ?_
      exact oX7_writeRow_61 C T hn hR hin a0 x1 s2
    · refine ok_aload_n C 0 dX7_writeRow_27 rfl ?_
      refine ok_callV C T [] (F := fX7_saysBlank a0) (ctX7_saysBlank (C.2.2.2.2.2.2.2.2.1) a0) vlX7_380 viX7_saysBlank rfl rfl (by decide) rfl (by rw [hR.1, hR.2]; decide) (Nat.le_of_ble_eq_true rfl) dX7_writeRow_28 (ok_qV fun s3 => ?_)
      refine ok_aload_n C 0 dX7_writeRow_31 rfl ?_
      refine ok_bipush C (v := 91) dX7_writeRow_32 (by decide) ?_
      refine ok_callV C T [.int 91] (F := fX7_says a0 91) (ctX7_says (C.2.2.2.2.2.2.2.2.1) a0 91) vlX7_374 viX7_says rfl rfl (by decide) rfl (by rw [hR.1, hR.2]; decide) (Nat.le_of_ble_eq_true rfl) dX7_writeRow_34 (ok_qV fun s4 => ?_)
      refine ok_aload_n C 0 dX7_writeRow_37 rfl ?_
      refine ok_aload_n C 0 dX7_writeRow_38 rfl ?_
      refine ok_iload_n C 1 dX7_writeRow_39 rfl ?_
      refine ok_iconst C (v := 5) dX7_writeRow_40 (by decide) ?_
      refine ok_iload_n C 2 dX7_writeRow_41 rfl ?_
      refine ok_iadd C dX7_writeRow_42 ?_
      refine ok_callV C T [.int x1, .int (5 + x2)] (F := fX7_of a0 x1 (5 + x2)) (ctX7_of (C.2.2.2.2.2.2.2.2.1) a0 x1 (5 + x2)) vlX7_189 viX7_of rfl rfl (by decide) rfl (by rw [hR.1, hR.2]; decide) (Nat.le_of_ble_eq_true rfl) dX7_writeRow_43 (ok_qI fun v5 s6 => ?_)
      refine ok_callV C T [.int v5] (F := fX7_saysNumber a0 v5) (ctX7_saysNumber (C.2.2.2.2.2.2.2.2.1) a0 v5) vlX7_377 viX7_saysNumber rfl rfl (by decide) rfl (by rw [hR.1, hR.2]; decide) (Nat.le_of_ble_eq_true rfl) dX7_writeRow_46 (ok_qV fun s7 => ?_)
      refine ok_aload_n C 0 dX7_writeRow_49 rfl ?_
      refine ok_bipush C (v := 93) dX7_writeRow_50 (by decide) ?_
      refine ok_callV C T [.int 93] (F := fX7_says a0 93) (ctX7_says (C.2.2.2.2.2.2.2.2.1) a0 93) vlX7_374 viX7_says rfl rfl (by decide) rfl (by rw [hR.1, hR.2]; decide) (Nat.le_of_ble_eq_true rfl) dX7_writeRow_52 (ok_qV fun s8 => ?_)
      refine ok_iincL C 2 (c := 1) (fun v9 => [(2, .int v9), (0, .ref a0), (1, .int x1)]) dX7_writeRow_55 rfl rfl (by rw [hn]; decide) (fun _ => rfl) (fun v9 => ?_)
      refine ok_goto C 17 dX7_writeRow_58 (by decide) ?_
      refine OK.sub (lv' := [(0, .ref a0), (1, .int x1), (2, .int v9)]) [1, 2, 0] rfl ?_
      exact ih a0 x1 v9 s8
set_option maxHeartbeats 4000000 in
theorem oX7_writeRow {Γ : CX} (C : OKC Γ cX7_writeRow RX7 (some (.int))) (T : ∀ z ∈ (cx_c Γ).exceptionTable.toList, False) (hn : cx_nL Γ = 3) (hR : cx_fr Γ = 4 ∧ cx_lo Γ = 124) (hin : (cx_meth Γ).name = yX7_writeRow.name) : ∀ (a0 : Nat) (x1 : Int32) (s0 : AS), OK Γ 0 [(0, .ref a0), (1, .int x1)] [] (fX7_writeRow a0 x1 s0) s0 := by
  intro a0 x1 s0
  unfold fX7_writeRow
  refine ok_aload_n C 0 dX7_writeRow_0 rfl ?_
  refine ok_iload_n C 1 dX7_writeRow_1 rfl ?_
  refine ok_callV C T [.int x1] (F := fX7_noRow a0 x1) (ctX7_noRow (C.2.2.2.2.2.2.2.2.1) a0 x1) vlX7_335 viX7_noRow rfl rfl (by decide) rfl (by rw [hR.1, hR.2]; decide) (Nat.le_of_ble_eq_true rfl) dX7_writeRow_2 (ok_qI fun v1 s2 => ?_)
  refine ok_if_eq C 10 dX7_writeRow_5 (by decide) ?_ ?_
  · refine ok_aload_n C 0 dX7_writeRow_10 rfl ?_
    refine ok_iconst C (v := 0) dX7_writeRow_11 (by decide) ?_
    refine ok_putI C flX7_371_11 dX7_writeRow_12 (fun s3 _ => ?_)
    refine ok_iconst C (v := 0) dX7_writeRow_15 (by decide) ?_
    refine ok_istore_n C (i := 2) [(2, .int 0), (0, .ref a0), (1, .int x1)] dX7_writeRow_16 rfl (by rw [hn]; decide) rfl ?_
    refine OK.sub (lv' := [(0, .ref a0), (1, .int x1), (2, .int 0)]) [1, 2, 0] rfl ?_
    exact oX7_writeRow_17 C T hn hR hin FU a0 x1 0 s3
  · refine ok_iconst C (v := 0) dX7_writeRow_8 (by decide) ?_
    exact ok_ireturn C dX7_writeRow_9
theorem ctX7_writeRow {l : Launch} (hl : l.stackTraces = false) {D : va_G} {dA : Nat → ClassId} {B0 : Nat} (a0 : Nat) (x1 : Int32) : Ct l D dA B0 yX7_writeRow (.code yX7_writeRow cX7_writeRow 3 (some (.int)) :: ax_ALL) 4 124 [.ref a0, .int x1] (fX7_writeRow a0 x1) :=
  Ct.of hl (by decide +kernel) (Nat.le_of_ble_eq_true rfl) fun Γ C _ _ _ _ e5 e6 e7 T hin => oX7_writeRow C T e5 ⟨e6, e7⟩ hin a0 x1 _
/-! ChaseLockerModel.writeChoice(I)I -/
def fX7_writeChoice_99  (a0 : Nat) (s0 : AS) : Option AR :=
  gI s0 a0 11 36 (fun v1 =>
  cV s0 a0 11 (fX7_saysQuoin a0 v1 s0) (qV (fun s2 =>
  gI s2 a0 11 40 (fun v3 =>
  some (.inl (some (.int v3)), s2)))))
def fX7_writeChoice_93 (r36 : Nat → Int32 → AS → Option AR) (a0 : Nat) (x2 : Int32) (s0 : AS) : Option AR :=
  lt (x2 + 1) (fun v1 =>
  r36 a0 v1 s0)
def fX7_writeChoice_36  : Nat → Nat → Int32 → AS → Option AR
  | 0, _, _, _ => none
  | n + 1, a0, x2, s0 =>
    gI s0 a0 11 9 (fun v1 =>
    if v1 ≤ x2 then (
      fX7_writeChoice_99 a0 s0)
    else (
      gR s0 a0 11 35 (fun q2 =>
      gR s0 a0 11 33 (fun q3 =>
      aI s0 q3 100 x2 (fun v4 =>
      aI s0 q2 100 v4 (fun v5 =>
      if v5 ≤ 0 then (
        fX7_writeChoice_93 (fX7_writeChoice_36 n) a0 x2 s0)
      else (
        cV s0 a0 11 (fX7_saysBlank a0 s0) (qV (fun s6 =>
        gR s6 a0 11 35 (fun q7 =>
        gR s6 a0 11 33 (fun q8 =>
        aI s6 q8 100 x2 (fun v9 =>
        aI s6 q7 100 v9 (fun v10 =>
        cV s6 a0 11 (fX7_saysNumber a0 v10 s6) (qV (fun s11 =>
        cV s11 a0 11 (fX7_says a0 120 s11) (qV (fun s12 =>
        gR s12 a0 11 33 (fun q13 =>
        aI s12 q13 100 x2 (fun v14 =>
        cV s12 a0 11 (fX7_saysKind a0 v14 s12) (qV (fun s15 =>
        fX7_writeChoice_93 (fX7_writeChoice_36 n) a0 x2 s15)))))))))))))))))))))
def fX7_writeChoice (a0 : Nat) (x1 : Int32) (s0 : AS) : Option AR :=
  cV s0 a0 11 (fX7_noRow a0 x1 s0) (qI (fun v1 s2 =>
  if v1 = 0 then (
    sI s2 a0 11 40 0 (fun s3 =>
    cV s3 a0 11 (fX7_chooses a0 x1 s3) (qI (fun v4 s5 =>
    if v4 = 0 then (
      cV s5 a0 11 (fX7_says a0 45 s5) (qV (fun s6 =>
      gI s6 a0 11 40 (fun v7 =>
      some (.inl (some (.int v7)), s6)))))
    else (
      fX7_writeChoice_36 FU a0 0 s5)))))
  else (
    some (.inl (some (.int 0)), s2))))
set_option maxHeartbeats 4000000 in
theorem oX7_writeChoice_99 {Γ : CX} (C : OKC Γ cX7_writeChoice RX7 (some (.int))) (T : ∀ z ∈ (cx_c Γ).exceptionTable.toList, False) (hn : cx_nL Γ = 3) (hR : cx_fr Γ = 9 ∧ cx_lo Γ = 238) (hin : (cx_meth Γ).name = yX7_writeChoice.name) : ∀ (a0 : Nat) (s0 : AS), OK Γ 99 [(0, .ref a0)] [] (fX7_writeChoice_99  a0 s0) s0 := by
  intro a0 s0
  unfold fX7_writeChoice_99
  refine ok_aload_n C 0 dX7_writeChoice_99 rfl ?_
  refine ok_aload_n C 0 dX7_writeChoice_100 rfl ?_
  refine ok_getI C frX7_298_11 dX7_writeChoice_101 (fun v1 => ?_)
  refine ok_callV C T [.int v1] (F := fX7_saysQuoin a0 v1) (ctX7_saysQuoin (C.2.2.2.2.2.2.2.2.1) a0 v1) vlX7_386 viX7_saysQuoin rfl rfl (by decide) rfl (by rw [hR.1, hR.2]; decide) (Nat.le_of_ble_eq_true rfl) dX7_writeChoice_104 (ok_qV fun s2 => ?_)
  refine ok_aload_n C 0 dX7_writeChoice_107 rfl ?_
  refine ok_getI C frX7_371_11 dX7_writeChoice_108 (fun v3 => ?_)
  exact ok_ireturn C dX7_writeChoice_111
set_option maxHeartbeats 4000000 in
theorem oX7_writeChoice_93 {Γ : CX} (C : OKC Γ cX7_writeChoice RX7 (some (.int))) (T : ∀ z ∈ (cx_c Γ).exceptionTable.toList, False) (hn : cx_nL Γ = 3) (hR : cx_fr Γ = 9 ∧ cx_lo Γ = 238) (hin : (cx_meth Γ).name = yX7_writeChoice.name) {r36 : Nat → Int32 → AS → Option AR} (h36 : ∀ (a0 : Nat) (x2 : Int32) (s0 : AS), OK Γ 36 [(0, .ref a0), (2, .int x2)] [] (r36 a0 x2 s0) s0) : ∀ (a0 : Nat) (x2 : Int32) (s0 : AS), OK Γ 93 [(0, .ref a0), (2, .int x2)] [] (fX7_writeChoice_93 r36 a0 x2 s0) s0 := by
  intro a0 x2 s0
  unfold fX7_writeChoice_93
  refine ok_iincL C 1 (c := 1) (fun v1 => [(2, .int v1), (0, .ref a0)]) dX7_writeChoice_93 rfl rfl (by rw [hn]; decide) (fun _ => rfl) (fun v1 => ?_)
  refine ok_goto C 36 dX7_writeChoice_96 (by decide) ?_
  refine OK.sub (lv' := [(0, .ref a0), (2, .int v1)]) [1, 0] rfl ?_
  exact h36 a0 v1 s0
set_option maxHeartbeats 4000000 in
theorem oX7_writeChoice_36 {Γ : CX} (C : OKC Γ cX7_writeChoice RX7 (some (.int))) (T : ∀ z ∈ (cx_c Γ).exceptionTable.toList, False) (hn : cx_nL Γ = 3) (hR : cx_fr Γ = 9 ∧ cx_lo Γ = 238) (hin : (cx_meth Γ).name = yX7_writeChoice.name) : ∀ (n : Nat) (a0 : Nat) (x2 : Int32) (s0 : AS), OK Γ 36 [(0, .ref a0), (2, .int x2)] [] (fX7_writeChoice_36 n a0 x2 s0) s0 := by
  intro n
  induction n with
  | zero => intro _ _ s0; exact OK.none
  | succ n ih =>
    intro a0 x2 s0
    rw [fX7_writeChoice_36]
    refine ok_iload_n C 1 dX7_writeChoice_36 rfl ?_
    refine ok_aload_n C 0 dX7_writeChoice_37 rfl ?_
    refine ok_getI C frX7_172_11 dX7_writeChoice_38 (fun v1 => ?_)
    refine ok_icmp_ge C 99 dX7_writeChoice_41 (by decide) ?_ ?_
    · refine OK.sub (lv' := [(0, .ref a0)]) [0] rfl ?_
      exact oX7_writeChoice_99 C T hn hR hin a0 s0
    · refine ok_aload_n C 0 dX7_writeChoice_44 rfl ?_
      refine ok_getR C frX7_55_11 dX7_writeChoice_45 (fun q2 => ?_)
      refine ok_aload_n C 0 dX7_writeChoice_48 rfl ?_
      refine ok_getR C frX7_49_11 dX7_writeChoice_49 (fun q3 => ?_)
      refine ok_iload_n C 1 dX7_writeChoice_52 rfl ?_
      refine ok_iald C dX7_writeChoice_53 (fun v4 => ?_)
      refine ok_iald C dX7_writeChoice_54 (fun v5 => ?_)
      refine ok_if_le C 93 dX7_writeChoice_55 (by decide) ?_ ?_
      · exact oX7_writeChoice_93 C T hn hR hin ih a0 x2 s0
      · refine ok_aload_n C 0 dX7_writeChoice_58 rfl ?_
        refine ok_callV C T [] (F := fX7_saysBlank a0) (ctX7_saysBlank (C.2.2.2.2.2.2.2.2.1) a0) vlX7_380 viX7_saysBlank rfl rfl (by decide) rfl (by rw [hR.1, hR.2]; decide) (Nat.le_of_ble_eq_true rfl) dX7_writeChoice_59 (ok_qV fun s6 => ?_)
        refine ok_aload_n C 0 dX7_writeChoice_62 rfl ?_
        refine ok_aload_n C 0 dX7_writeChoice_63 rfl ?_
        refine ok_getR C frX7_55_11 dX7_writeChoice_64 (fun q7 => ?_)
        refine ok_aload_n C 0 dX7_writeChoice_67 rfl ?_
        refine ok_getR C frX7_49_11 dX7_writeChoice_68 (fun q8 => ?_)
        refine ok_iload_n C 1 dX7_writeChoice_71 rfl ?_
        refine ok_iald C dX7_writeChoice_72 (fun v9 => ?_)
        refine ok_iald C dX7_writeChoice_73 (fun v10 => ?_)
        refine ok_callV C T [.int v10] (F := fX7_saysNumber a0 v10) (ctX7_saysNumber (C.2.2.2.2.2.2.2.2.1) a0 v10) vlX7_377 viX7_saysNumber rfl rfl (by decide) rfl (by rw [hR.1, hR.2]; decide) (Nat.le_of_ble_eq_true rfl) dX7_writeChoice_74 (ok_qV fun s11 => ?_)
        refine ok_aload_n C 0 dX7_writeChoice_77 rfl ?_
        refine ok_bipush C (v := 120) dX7_writeChoice_78 (by decide) ?_
        refine ok_callV C T [.int 120] (F := fX7_says a0 120) (ctX7_says (C.2.2.2.2.2.2.2.2.1) a0 120) vlX7_374 viX7_says rfl rfl (by decide) rfl (by rw [hR.1, hR.2]; decide) (Nat.le_of_ble_eq_true rfl) dX7_writeChoice_80 (ok_qV fun s12 => ?_)
        refine ok_aload_n C 0 dX7_writeChoice_83 rfl ?_
        refine ok_aload_n C 0 dX7_writeChoice_84 rfl ?_
        refine ok_getR C frX7_49_11 dX7_writeChoice_85 (fun q13 => ?_)
        refine ok_iload_n C 1 dX7_writeChoice_88 rfl ?_
        refine ok_iald C dX7_writeChoice_89 (fun v14 => ?_)
        refine ok_callV C T [.int v14] (F := fX7_saysKind a0 v14) (ctX7_saysKind (C.2.2.2.2.2.2.2.2.1) a0 v14) vlX7_383 viX7_saysKind rfl rfl (by decide) rfl (by rw [hR.1, hR.2]; decide) (Nat.le_of_ble_eq_true rfl) dX7_writeChoice_90 (ok_qV fun s15 => ?_)
        exact oX7_writeChoice_93 C T hn hR hin ih a0 x2 s15
set_option maxHeartbeats 4000000 in
theorem oX7_writeChoice {Γ : CX} (C : OKC Γ cX7_writeChoice RX7 (some (.int))) (T : ∀ z ∈ (cx_c Γ).exceptionTable.toList, False) (hn : cx_nL Γ = 3) (hR : cx_fr Γ = 9 ∧ cx_lo Γ = 238) (hin : (cx_meth Γ).name = yX7_writeChoice.name) : ∀ (a0 : Nat) (x1 : Int32) (s0 : AS), OK Γ 0 [(0, .ref a0), (1, .int x1)] [] (fX7_writeChoice a0 x1 s0) s0 := by
  intro a0 x1 s0
  unfold fX7_writeChoice
  refine ok_aload_n C 0 dX7_writeChoice_0 rfl ?_
  refine ok_iload_n C 1 dX7_writeChoice_1 rfl ?_
  refine ok_callV C T [.int x1] (F := fX7_noRow a0 x1) (ctX7_noRow (C.2.2.2.2.2.2.2.2.1) a0 x1) vlX7_335 viX7_noRow rfl rfl (by decide) rfl (by rw [hR.1, hR.2]; decide) (Nat.le_of_ble_eq_true rfl) dX7_writeChoice_2 (ok_qI fun v1 s2 => ?_)
  refine ok_if_eq C 10 dX7_writeChoice_5 (by decide) ?_ ?_
  · refine ok_aload_n C 0 dX7_writeChoice_10 rfl ?_
    refine ok_iconst C (v := 0) dX7_writeChoice_11 (by decide) ?_
    refine ok_putI C flX7_371_11 dX7_writeChoice_12 (fun s3 _ => ?_)
    refine ok_aload_n C 0 dX7_writeChoice_15 rfl ?_
    refine ok_iload_n C 1 dX7_writeChoice_16 rfl ?_
    refine ok_callV C T [.int x1] (F := fX7_chooses a0 x1) (ctX7_chooses (C.2.2.2.2.2.2.2.2.1) a0 x1) vlX7_311 viX7_chooses rfl rfl (by decide) rfl (by rw [hR.1, hR.2]; decide) (Nat.le_of_ble_eq_true rfl) dX7_writeChoice_17 (ok_qI fun v4 s5 => ?_)
    refine ok_if_ne C 34 dX7_writeChoice_20 (by decide) ?_ ?_
    · refine ok_iconst C (v := 0) dX7_writeChoice_34 (by decide) ?_
      refine ok_istore_n C (i := 2) [(2, .int 0), (0, .ref a0), (1, .int x1)] dX7_writeChoice_35 rfl (by rw [hn]; decide) rfl ?_
      refine OK.sub (lv' := [(0, .ref a0), (2, .int 0)]) [1, 0] rfl ?_
      exact oX7_writeChoice_36 C T hn hR hin FU a0 0 s5
    · refine ok_aload_n C 0 dX7_writeChoice_23 rfl ?_
      refine ok_bipush C (v := 45) dX7_writeChoice_24 (by decide) ?_
      refine ok_callV C T [.int 45] (F := fX7_says a0 45) (ctX7_says (C.2.2.2.2.2.2.2.2.1) a0 45) vlX7_374 viX7_says rfl rfl (by decide) rfl (by rw [hR.1, hR.2]; decide) (Nat.le_of_ble_eq_true rfl) dX7_writeChoice_26 (ok_qV fun s6 => ?_)
      refine ok_aload_n C 0 dX7_writeChoice_29 rfl ?_
      refine ok_getI C frX7_371_11 dX7_writeChoice_30 (fun v7 => ?_)
      exact ok_ireturn C dX7_writeChoice_33
  · refine ok_iconst C (v := 0) dX7_writeChoice_8 (by decide) ?_
    exact ok_ireturn C dX7_writeChoice_9
theorem ctX7_writeChoice {l : Launch} (hl : l.stackTraces = false) {D : va_G} {dA : Nat → ClassId} {B0 : Nat} (a0 : Nat) (x1 : Int32) : Ct l D dA B0 yX7_writeChoice (.code yX7_writeChoice cX7_writeChoice 3 (some (.int)) :: ax_ALL) 9 238 [.ref a0, .int x1] (fX7_writeChoice a0 x1) :=
  Ct.of hl (by decide +kernel) (Nat.le_of_ble_eq_true rfl) fun Γ C _ _ _ _ e5 e6 e7 T hin => oX7_writeChoice C T e5 ⟨e6, e7⟩ hin a0 x1 _
/-! ChaseLockerModel.writeStock()I -/
def fX7_writeStock_34 (r16 : Nat → Int32 → AS → Option AR) (a0 : Nat) (x1 : Int32) (s0 : AS) : Option AR :=
  cV s0 a0 11 (fX7_saysKind a0 x1 s0) (qV (fun s1 =>
  cV s1 a0 11 (fX7_says a0 58 s1) (qV (fun s2 =>
  gR s2 a0 11 12 (fun q3 =>
  aI s2 q3 100 (6 + x1) (fun v4 =>
  cV s2 a0 11 (fX7_saysNumber a0 v4 s2) (qV (fun s5 =>
  lt (x1 + 1) (fun v6 =>
  r16 a0 v6 s5)))))))))
def fX7_writeStock_16  : Nat → Nat → Int32 → AS → Option AR
  | 0, _, _, _ => none
  | n + 1, a0, x1, s0 =>
    gI s0 a0 11 9 (fun v1 =>
    if v1 ≤ x1 then (
      gI s0 a0 11 40 (fun v2 =>
      some (.inl (some (.int v2)), s0)))
    else (
      if x1 ≤ 0 then (
        fX7_writeStock_34 (fX7_writeStock_16 n) a0 x1 s0)
      else (
        cV s0 a0 11 (fX7_says a0 44 s0) (qV (fun s3 =>
        fX7_writeStock_34 (fX7_writeStock_16 n) a0 x1 s3)))))
def fX7_writeStock (a0 : Nat) (s0 : AS) : Option AR :=
  cV s0 a0 11 (fX7_notLoaded a0 s0) (qI (fun v1 s2 =>
  if v1 = 0 then (
    sI s2 a0 11 40 0 (fun s3 =>
    fX7_writeStock_16 FU a0 0 s3))
  else (
    some (.inl (some (.int 0)), s2))))
set_option maxHeartbeats 4000000 in
theorem oX7_writeStock_34 {Γ : CX} (C : OKC Γ cX7_writeStock RX7 (some (.int))) (T : ∀ z ∈ (cx_c Γ).exceptionTable.toList, False) (hn : cx_nL Γ = 2) (hR : cx_fr Γ = 4 ∧ cx_lo Γ = 124) (hin : (cx_meth Γ).name = yX7_writeStock.name) {r16 : Nat → Int32 → AS → Option AR} (h16 : ∀ (a0 : Nat) (x1 : Int32) (s0 : AS), OK Γ 16 [(0, .ref a0), (1, .int x1)] [] (r16 a0 x1 s0) s0) : ∀ (a0 : Nat) (x1 : Int32) (s0 : AS), OK Γ 34 [(0, .ref a0), (1, .int x1)] [] (fX7_writeStock_34 r16 a0 x1 s0) s0 := by
  intro a0 x1 s0
  unfold fX7_writeStock_34
  refine ok_aload_n C 0 dX7_writeStock_34 rfl ?_
  refine ok_iload_n C 1 dX7_writeStock_35 rfl ?_
  refine ok_callV C T [.int x1] (F := fX7_saysKind a0 x1) (ctX7_saysKind (C.2.2.2.2.2.2.2.2.1) a0 x1) vlX7_383 viX7_saysKind rfl rfl (by decide) rfl (by rw [hR.1, hR.2]; decide) (Nat.le_of_ble_eq_true rfl) dX7_writeStock_36 (ok_qV fun s1 => ?_)
  refine ok_aload_n C 0 dX7_writeStock_39 rfl ?_
  refine ok_bipush C (v := 58) dX7_writeStock_40 (by decide) ?_
  refine ok_callV C T [.int 58] (F := fX7_says a0 58) (ctX7_says (C.2.2.2.2.2.2.2.2.1) a0 58) vlX7_374 viX7_says rfl rfl (by decide) rfl (by rw [hR.1, hR.2]; decide) (Nat.le_of_ble_eq_true rfl) dX7_writeStock_42 (ok_qV fun s2 => ?_)
  refine ok_aload_n C 0 dX7_writeStock_45 rfl ?_
  refine ok_aload_n C 0 dX7_writeStock_46 rfl ?_
  refine ok_getR C frX7_17_11 dX7_writeStock_47 (fun q3 => ?_)
  refine ok_bipush C (v := 6) dX7_writeStock_50 (by decide) ?_
  refine ok_iload_n C 1 dX7_writeStock_52 rfl ?_
  refine ok_iadd C dX7_writeStock_53 ?_
  refine ok_iald C dX7_writeStock_54 (fun v4 => ?_)
  refine ok_callV C T [.int v4] (F := fX7_saysNumber a0 v4) (ctX7_saysNumber (C.2.2.2.2.2.2.2.2.1) a0 v4) vlX7_377 viX7_saysNumber rfl rfl (by decide) rfl (by rw [hR.1, hR.2]; decide) (Nat.le_of_ble_eq_true rfl) dX7_writeStock_55 (ok_qV fun s5 => ?_)
  refine ok_iincL C 1 (c := 1) (fun v6 => [(1, .int v6), (0, .ref a0)]) dX7_writeStock_58 rfl rfl (by rw [hn]; decide) (fun _ => rfl) (fun v6 => ?_)
  refine ok_goto C 16 dX7_writeStock_61 (by decide) ?_
  refine OK.sub (lv' := [(0, .ref a0), (1, .int v6)]) [1, 0] rfl ?_
  exact h16 a0 v6 s5
set_option maxHeartbeats 4000000 in
theorem oX7_writeStock_16 {Γ : CX} (C : OKC Γ cX7_writeStock RX7 (some (.int))) (T : ∀ z ∈ (cx_c Γ).exceptionTable.toList, False) (hn : cx_nL Γ = 2) (hR : cx_fr Γ = 4 ∧ cx_lo Γ = 124) (hin : (cx_meth Γ).name = yX7_writeStock.name) : ∀ (n : Nat) (a0 : Nat) (x1 : Int32) (s0 : AS), OK Γ 16 [(0, .ref a0), (1, .int x1)] [] (fX7_writeStock_16 n a0 x1 s0) s0 := by
  intro n
  induction n with
  | zero => intro _ _ s0; exact OK.none
  | succ n ih =>
    intro a0 x1 s0
    rw [fX7_writeStock_16]
    refine ok_iload_n C 1 dX7_writeStock_16 rfl ?_
    refine ok_aload_n C 0 dX7_writeStock_17 rfl ?_
    refine ok_getI C frX7_172_11 dX7_writeStock_18 (fun v1 => ?_)
    refine ok_icmp_ge C 64 dX7_writeStock_21 (by decide) ?_ ?_
    · refine ok_aload_n C 0 dX7_writeStock_64 rfl ?_
      refine ok_getI C frX7_371_11 dX7_writeStock_65 (fun v2 => ?_)
      exact ok_ireturn C dX7_writeStock_68
    · refine ok_iload_n C 1 dX7_writeStock_24 rfl ?_
      refine ok_if_le C 34 dX7_writeStock_25 (by decide) ?_ ?_
      · exact oX7_writeStock_34 C T hn hR hin ih a0 x1 s0
      · refine ok_aload_n C 0 dX7_writeStock_28 rfl ?_
        refine ok_bipush C (v := 44) dX7_writeStock_29 (by decide) ?_
        refine ok_callV C T [.int 44] (F := fX7_says a0 44) (ctX7_says (C.2.2.2.2.2.2.2.2.1) a0 44) vlX7_374 viX7_says rfl rfl (by decide) rfl (by rw [hR.1, hR.2]; decide) (Nat.le_of_ble_eq_true rfl) dX7_writeStock_31 (ok_qV fun s3 => ?_)
        exact oX7_writeStock_34 C T hn hR hin ih a0 x1 s3
set_option maxHeartbeats 4000000 in
theorem oX7_writeStock {Γ : CX} (C : OKC Γ cX7_writeStock RX7 (some (.int))) (T : ∀ z ∈ (cx_c Γ).exceptionTable.toList, False) (hn : cx_nL Γ = 2) (hR : cx_fr Γ = 4 ∧ cx_lo Γ = 124) (hin : (cx_meth Γ).name = yX7_writeStock.name) : ∀ (a0 : Nat) (s0 : AS), OK Γ 0 [(0, .ref a0)] [] (fX7_writeStock a0 s0) s0 := by
  intro a0 s0
  unfold fX7_writeStock
  refine ok_aload_n C 0 dX7_writeStock_0 rfl ?_
  refine ok_callV C T [] (F := fX7_notLoaded a0) (ctX7_notLoaded (C.2.2.2.2.2.2.2.2.1) a0) vlX7_320 viX7_notLoaded rfl rfl (by decide) rfl (by rw [hR.1, hR.2]; decide) (Nat.le_of_ble_eq_true rfl) dX7_writeStock_1 (ok_qI fun v1 s2 => ?_)
  refine ok_if_eq C 9 dX7_writeStock_4 (by decide) ?_ ?_
  · refine ok_aload_n C 0 dX7_writeStock_9 rfl ?_
    refine ok_iconst C (v := 0) dX7_writeStock_10 (by decide) ?_
    refine ok_putI C flX7_371_11 dX7_writeStock_11 (fun s3 _ => ?_)
    refine ok_iconst C (v := 0) dX7_writeStock_14 (by decide) ?_
    refine ok_istore_n C (i := 1) [(1, .int 0), (0, .ref a0)] dX7_writeStock_15 rfl (by rw [hn]; decide) rfl ?_
    refine OK.sub (lv' := [(0, .ref a0), (1, .int 0)]) [1, 0] rfl ?_
    exact oX7_writeStock_16 C T hn hR hin FU a0 0 s3
  · refine ok_iconst C (v := 0) dX7_writeStock_7 (by decide) ?_
    exact ok_ireturn C dX7_writeStock_8
theorem ctX7_writeStock {l : Launch} (hl : l.stackTraces = false) {D : va_G} {dA : Nat → ClassId} {B0 : Nat} (a0 : Nat) : Ct l D dA B0 yX7_writeStock (.code yX7_writeStock cX7_writeStock 2 (some (.int)) :: ax_ALL) 4 124 [.ref a0] (fX7_writeStock a0) :=
  Ct.of hl (by decide +kernel) (Nat.le_of_ble_eq_true rfl) fun Γ C _ _ _ _ e5 e6 e7 T hin => oX7_writeStock C T e5 ⟨e6, e7⟩ hin a0 _
/-! ChaseLockerModel.textByte(I)I -/
def fX7_textByte_25  (a0 : Nat) (x1 : Int32) (t0 : Nat) (t1 : Int32) (s0 : AS) : Option AR :=
  cV s0 t0 11 (fX7_refuse t0 t1 1 s0) (qI (fun v1 s2 =>
  if v1 = 0 then (
    gR s2 a0 11 39 (fun q3 =>
    aI s2 q3 100 x1 (fun v4 =>
    some (.inl (some (.int v4)), s2))))
  else (
    some (.inl (some (.int 0)), s2))))
def fX7_textByte (a0 : Nat) (x1 : Int32) (s0 : AS) : Option AR :=
  sI s0 a0 11 0 0 (fun s1 =>
  gI s1 a0 11 40 (fun v2 =>
  cS s1 (fX7_in x1 0 (v2 - 1) s1) (qI (fun v3 s4 =>
  if v3 = 0 then (
    fX7_textByte_25 a0 x1 a0 1 s4)
  else (
    fX7_textByte_25 a0 x1 a0 0 s4)))))
set_option maxHeartbeats 4000000 in
theorem oX7_textByte_25 {Γ : CX} (C : OKC Γ cX7_textByte RX7 (some (.int))) (T : ∀ z ∈ (cx_c Γ).exceptionTable.toList, False) (hn : cx_nL Γ = 2) (hR : cx_fr Γ = 2 ∧ cx_lo Γ = 82) (hin : (cx_meth Γ).name = yX7_textByte.name) : ∀ (a0 : Nat) (x1 : Int32) (t0 : Nat) (t1 : Int32) (s0 : AS), OK Γ 25 [(0, .ref a0), (1, .int x1)] [.int t1, .ref t0] (fX7_textByte_25  a0 x1 t0 t1 s0) s0 := by
  intro a0 x1 t0 t1 s0
  unfold fX7_textByte_25
  refine ok_iconst C (v := 1) dX7_textByte_25 (by decide) ?_
  refine ok_callV C T [.int t1, .int 1] (F := fX7_refuse t0 t1 1) (ctX7_refuse (C.2.2.2.2.2.2.2.2.1) t0 t1 1) vlX7_74 viX7_refuse rfl rfl (by decide) rfl (by rw [hR.1, hR.2]; decide) (Nat.le_of_ble_eq_true rfl) dX7_textByte_26 (ok_qI fun v1 s2 => ?_)
  refine ok_if_eq C 36 dX7_textByte_29 (by decide) ?_ ?_
  · refine ok_aload_n C 0 dX7_textByte_36 rfl ?_
    refine ok_getR C frX7_64_11 dX7_textByte_37 (fun q3 => ?_)
    refine ok_iload_n C 1 dX7_textByte_40 rfl ?_
    refine ok_iald C dX7_textByte_41 (fun v4 => ?_)
    exact ok_ireturn C dX7_textByte_42
  · refine ok_iconst C (v := 0) dX7_textByte_32 (by decide) ?_
    refine ok_goto C 42 dX7_textByte_33 (by decide) ?_
    exact ok_ireturn C dX7_textByte_42
set_option maxHeartbeats 4000000 in
theorem oX7_textByte {Γ : CX} (C : OKC Γ cX7_textByte RX7 (some (.int))) (T : ∀ z ∈ (cx_c Γ).exceptionTable.toList, False) (hn : cx_nL Γ = 2) (hR : cx_fr Γ = 2 ∧ cx_lo Γ = 82) (hin : (cx_meth Γ).name = yX7_textByte.name) : ∀ (a0 : Nat) (x1 : Int32) (s0 : AS), OK Γ 0 [(0, .ref a0), (1, .int x1)] [] (fX7_textByte a0 x1 s0) s0 := by
  intro a0 x1 s0
  unfold fX7_textByte
  refine ok_aload_n C 0 dX7_textByte_0 rfl ?_
  refine ok_iconst C (v := 0) dX7_textByte_1 (by decide) ?_
  refine ok_putI C flX7_67_11 dX7_textByte_2 (fun s1 _ => ?_)
  refine ok_aload_n C 0 dX7_textByte_5 rfl ?_
  refine ok_iload_n C 1 dX7_textByte_6 rfl ?_
  refine ok_iconst C (v := 0) dX7_textByte_7 (by decide) ?_
  refine ok_aload_n C 0 dX7_textByte_8 rfl ?_
  refine ok_getI C frX7_371_11 dX7_textByte_9 (fun v2 => ?_)
  refine ok_iconst C (v := 1) dX7_textByte_12 (by decide) ?_
  refine ok_isub C dX7_textByte_13 ?_
  refine ok_callS C T [.int x1, .int 0, .int (v2 - 1)] (F := fX7_in x1 0 (v2 - 1)) (ctX7_in (C.2.2.2.2.2.2.2.2.1) x1 0 (v2 - 1)) vlX7_143 kw_793 rfl (by rw [hR.1, hR.2]; decide) (Nat.le_of_ble_eq_true rfl) dX7_textByte_14 (ok_qI fun v3 s4 => ?_)
  refine ok_if_ne C 24 dX7_textByte_17 (by decide) ?_ ?_
  · refine ok_iconst C (v := 0) dX7_textByte_24 (by decide) ?_
    exact oX7_textByte_25 C T hn hR hin a0 x1 a0 0 s4
  · refine ok_iconst C (v := 1) dX7_textByte_20 (by decide) ?_
    refine ok_goto C 25 dX7_textByte_21 (by decide) ?_
    exact oX7_textByte_25 C T hn hR hin a0 x1 a0 1 s4
theorem ctX7_textByte {l : Launch} (hl : l.stackTraces = false) {D : va_G} {dA : Nat → ClassId} {B0 : Nat} (a0 : Nat) (x1 : Int32) : Ct l D dA B0 yX7_textByte (.code yX7_textByte cX7_textByte 2 (some (.int)) :: ax_ALL) 2 82 [.ref a0, .int x1] (fX7_textByte a0 x1) :=
  Ct.of hl (by decide +kernel) (Nat.le_of_ble_eq_true rfl) fun Γ C _ _ _ _ e5 e6 e7 T hin => oX7_textByte C T e5 ⟨e6, e7⟩ hin a0 x1 _
/-! ChaseLockerModel.keeps(I)V -/
def fX7_keeps_2  : Nat → Nat → Int32 → Int32 → AS → Option AR
  | 0, _, _, _, _ => none
  | n + 1, a0, x1, x2, s0 =>
    if (4112 : Int32) ≤ x2 then (
      some (.inl none, s0))
    else (
      gR s0 a0 11 14 (fun q1 =>
      gR s0 a0 11 12 (fun q2 =>
      aI s0 q2 100 x2 (fun v3 =>
      uI s0 q1 ((4112 * x1) + x2) v3 (fun s4 =>
      lt (x2 + 1) (fun v5 =>
      fX7_keeps_2 n a0 x1 v5 s4))))))
def fX7_keeps (a0 : Nat) (x1 : Int32) (s0 : AS) : Option AR :=
  fX7_keeps_2 FU a0 x1 0 s0
set_option maxHeartbeats 4000000 in
theorem oX7_keeps_2 {Γ : CX} (C : OKC Γ cX7_keeps RX7 none) (T : ∀ z ∈ (cx_c Γ).exceptionTable.toList, False) (hn : cx_nL Γ = 3) (hR : cx_fr Γ = 1 ∧ cx_lo Γ = 60) (hin : (cx_meth Γ).name = yX7_keeps.name) : ∀ (n : Nat) (a0 : Nat) (x1 : Int32) (x2 : Int32) (s0 : AS), OK Γ 2 [(0, .ref a0), (1, .int x1), (2, .int x2)] [] (fX7_keeps_2 n a0 x1 x2 s0) s0 := by
  intro n
  induction n with
  | zero => intro _ _ _ s0; exact OK.none
  | succ n ih =>
    intro a0 x1 x2 s0
    rw [fX7_keeps_2]
    refine ok_iload_n C 2 dX7_keeps_2 rfl ?_
    refine ok_sipush C (v := 4112) dX7_keeps_3 (by decide) ?_
    refine ok_icmp_ge C 33 dX7_keeps_6 (by decide) ?_ ?_
    · exact ok_vreturn C dX7_keeps_33
    · refine ok_aload_n C 0 dX7_keeps_9 rfl ?_
      refine ok_getR C frX7_24_11 dX7_keeps_10 (fun q1 => ?_)
      refine ok_sipush C (v := 4112) dX7_keeps_13 (by decide) ?_
      refine ok_iload_n C 1 dX7_keeps_16 rfl ?_
      refine ok_imul C dX7_keeps_17 ?_
      refine ok_iload_n C 2 dX7_keeps_18 rfl ?_
      refine ok_iadd C dX7_keeps_19 ?_
      refine ok_aload_n C 0 dX7_keeps_20 rfl ?_
      refine ok_getR C frX7_17_11 dX7_keeps_21 (fun q2 => ?_)
      refine ok_iload_n C 2 dX7_keeps_24 rfl ?_
      refine ok_iald C dX7_keeps_25 (fun v3 => ?_)
      refine ok_iast C dX7_keeps_26 (fun s4 _ => ?_)
      refine ok_iincL C 2 (c := 1) (fun v5 => [(2, .int v5), (0, .ref a0), (1, .int x1)]) dX7_keeps_27 rfl rfl (by rw [hn]; decide) (fun _ => rfl) (fun v5 => ?_)
      refine ok_goto C 2 dX7_keeps_30 (by decide) ?_
      refine OK.sub (lv' := [(0, .ref a0), (1, .int x1), (2, .int v5)]) [1, 2, 0] rfl ?_
      exact ih a0 x1 v5 s4
set_option maxHeartbeats 4000000 in
theorem oX7_keeps {Γ : CX} (C : OKC Γ cX7_keeps RX7 none) (T : ∀ z ∈ (cx_c Γ).exceptionTable.toList, False) (hn : cx_nL Γ = 3) (hR : cx_fr Γ = 1 ∧ cx_lo Γ = 60) (hin : (cx_meth Γ).name = yX7_keeps.name) : ∀ (a0 : Nat) (x1 : Int32) (s0 : AS), OK Γ 0 [(0, .ref a0), (1, .int x1)] [] (fX7_keeps a0 x1 s0) s0 := by
  intro a0 x1 s0
  unfold fX7_keeps
  refine ok_iconst C (v := 0) dX7_keeps_0 (by decide) ?_
  refine ok_istore_n C (i := 2) [(2, .int 0), (0, .ref a0), (1, .int x1)] dX7_keeps_1 rfl (by rw [hn]; decide) rfl ?_
  refine OK.sub (lv' := [(0, .ref a0), (1, .int x1), (2, .int 0)]) [1, 2, 0] rfl ?_
  exact oX7_keeps_2 C T hn hR hin FU a0 x1 0 s0
theorem ctX7_keeps {l : Launch} (hl : l.stackTraces = false) {D : va_G} {dA : Nat → ClassId} {B0 : Nat} (a0 : Nat) (x1 : Int32) : Ct l D dA B0 yX7_keeps (.code yX7_keeps cX7_keeps 3 (none) :: ax_ALL) 1 60 [.ref a0, .int x1] (fX7_keeps a0 x1) :=
  Ct.of hl (by decide +kernel) (Nat.le_of_ble_eq_true rfl) fun Γ C _ _ _ _ e5 e6 e7 T hin => oX7_keeps C T e5 ⟨e6, e7⟩ hin a0 x1 _
/-! ChaseLockerModel.fetches(I)V -/
def fX7_fetches_2  : Nat → Nat → Int32 → Int32 → AS → Option AR
  | 0, _, _, _, _ => none
  | n + 1, a0, x1, x2, s0 =>
    if (4112 : Int32) ≤ x2 then (
      some (.inl none, s0))
    else (
      gR s0 a0 11 12 (fun q1 =>
      gR s0 a0 11 14 (fun q2 =>
      aI s0 q2 100 ((4112 * x1) + x2) (fun v3 =>
      uI s0 q1 x2 v3 (fun s4 =>
      lt (x2 + 1) (fun v5 =>
      fX7_fetches_2 n a0 x1 v5 s4))))))
def fX7_fetches (a0 : Nat) (x1 : Int32) (s0 : AS) : Option AR :=
  fX7_fetches_2 FU a0 x1 0 s0
set_option maxHeartbeats 4000000 in
theorem oX7_fetches_2 {Γ : CX} (C : OKC Γ cX7_fetches RX7 none) (T : ∀ z ∈ (cx_c Γ).exceptionTable.toList, False) (hn : cx_nL Γ = 3) (hR : cx_fr Γ = 1 ∧ cx_lo Γ = 60) (hin : (cx_meth Γ).name = yX7_fetches.name) : ∀ (n : Nat) (a0 : Nat) (x1 : Int32) (x2 : Int32) (s0 : AS), OK Γ 2 [(0, .ref a0), (1, .int x1), (2, .int x2)] [] (fX7_fetches_2 n a0 x1 x2 s0) s0 := by
  intro n
  induction n with
  | zero => intro _ _ _ s0; exact OK.none
  | succ n ih =>
    intro a0 x1 x2 s0
    rw [fX7_fetches_2]
    refine ok_iload_n C 2 dX7_fetches_2 rfl ?_
    refine ok_sipush C (v := 4112) dX7_fetches_3 (by decide) ?_
    refine ok_icmp_ge C 33 dX7_fetches_6 (by decide) ?_ ?_
    · exact ok_vreturn C dX7_fetches_33
    · refine ok_aload_n C 0 dX7_fetches_9 rfl ?_
      refine ok_getR C frX7_17_11 dX7_fetches_10 (fun q1 => ?_)
      refine ok_iload_n C 2 dX7_fetches_13 rfl ?_
      refine ok_aload_n C 0 dX7_fetches_14 rfl ?_
      refine ok_getR C frX7_24_11 dX7_fetches_15 (fun q2 => ?_)
      refine ok_sipush C (v := 4112) dX7_fetches_18 (by decide) ?_
      refine ok_iload_n C 1 dX7_fetches_21 rfl ?_
      refine ok_imul C dX7_fetches_22 ?_
      refine ok_iload_n C 2 dX7_fetches_23 rfl ?_
      refine ok_iadd C dX7_fetches_24 ?_
      refine ok_iald C dX7_fetches_25 (fun v3 => ?_)
      refine ok_iast C dX7_fetches_26 (fun s4 _ => ?_)
      refine ok_iincL C 2 (c := 1) (fun v5 => [(2, .int v5), (0, .ref a0), (1, .int x1)]) dX7_fetches_27 rfl rfl (by rw [hn]; decide) (fun _ => rfl) (fun v5 => ?_)
      refine ok_goto C 2 dX7_fetches_30 (by decide) ?_
      refine OK.sub (lv' := [(0, .ref a0), (1, .int x1), (2, .int v5)]) [1, 2, 0] rfl ?_
      exact ih a0 x1 v5 s4
set_option maxHeartbeats 4000000 in
theorem oX7_fetches {Γ : CX} (C : OKC Γ cX7_fetches RX7 none) (T : ∀ z ∈ (cx_c Γ).exceptionTable.toList, False) (hn : cx_nL Γ = 3) (hR : cx_fr Γ = 1 ∧ cx_lo Γ = 60) (hin : (cx_meth Γ).name = yX7_fetches.name) : ∀ (a0 : Nat) (x1 : Int32) (s0 : AS), OK Γ 0 [(0, .ref a0), (1, .int x1)] [] (fX7_fetches a0 x1 s0) s0 := by
  intro a0 x1 s0
  unfold fX7_fetches
  refine ok_iconst C (v := 0) dX7_fetches_0 (by decide) ?_
  refine ok_istore_n C (i := 2) [(2, .int 0), (0, .ref a0), (1, .int x1)] dX7_fetches_1 rfl (by rw [hn]; decide) rfl ?_
  refine OK.sub (lv' := [(0, .ref a0), (1, .int x1), (2, .int 0)]) [1, 2, 0] rfl ?_
  exact oX7_fetches_2 C T hn hR hin FU a0 x1 0 s0
theorem ctX7_fetches {l : Launch} (hl : l.stackTraces = false) {D : va_G} {dA : Nat → ClassId} {B0 : Nat} (a0 : Nat) (x1 : Int32) : Ct l D dA B0 yX7_fetches (.code yX7_fetches cX7_fetches 3 (none) :: ax_ALL) 1 60 [.ref a0, .int x1] (fX7_fetches a0 x1) :=
  Ct.of hl (by decide +kernel) (Nat.le_of_ble_eq_true rfl) fun Γ C _ _ _ _ e5 e6 e7 T hin => oX7_fetches C T e5 ⟨e6, e7⟩ hin a0 x1 _
/-! ChaseLockerModel.keepsAll()V -/
def fX7_keepsAll_50  (a0 : Nat) (s0 : AS) : Option AR :=
  gI s0 a0 11 15 (fun v1 =>
  cV s0 a0 11 (fX7_keeps a0 (0 + v1) s0) (qV (fun s2 =>
  gI s2 a0 11 15 (fun v3 =>
  sI s2 a0 11 15 (v3 + 1) (fun s4 =>
  some (.inl none, s4))))))
def fX7_keepsAll_40  (a0 : Nat) (s0 : AS) : Option AR :=
  gI s0 a0 11 15 (fun v1 =>
  sI s0 a0 11 15 (v1 - 1) (fun s2 =>
  fX7_keepsAll_50 a0 s2))
def fX7_keepsAll_11  : Nat → Nat → Int32 → AS → Option AR
  | 0, _, _, _ => none
  | n + 1, a0, x1, s0 =>
    if (28784 : Int32) ≤ x1 then (
      fX7_keepsAll_40 a0 s0)
    else (
      gR s0 a0 11 14 (fun q1 =>
      gR s0 a0 11 14 (fun q2 =>
      aI s0 q2 100 (x1 + 4112) (fun v3 =>
      uI s0 q1 x1 v3 (fun s4 =>
      lt (x1 + 1) (fun v5 =>
      fX7_keepsAll_11 n a0 v5 s4))))))
def fX7_keepsAll (a0 : Nat) (s0 : AS) : Option AR :=
  gI s0 a0 11 15 (fun v1 =>
  if v1 = (8 : Int32) then (
    fX7_keepsAll_11 FU a0 0 s0)
  else (
    fX7_keepsAll_50 a0 s0))
set_option maxHeartbeats 4000000 in
theorem oX7_keepsAll_50 {Γ : CX} (C : OKC Γ cX7_keepsAll RX7 none) (T : ∀ z ∈ (cx_c Γ).exceptionTable.toList, False) (hn : cx_nL Γ = 2) (hR : cx_fr Γ = 2 ∧ cx_lo Γ = 82) (hin : (cx_meth Γ).name = yX7_keepsAll.name) : ∀ (a0 : Nat) (s0 : AS), OK Γ 50 [(0, .ref a0)] [] (fX7_keepsAll_50  a0 s0) s0 := by
  intro a0 s0
  unfold fX7_keepsAll_50
  refine ok_aload_n C 0 dX7_keepsAll_50 rfl ?_
  refine ok_iconst C (v := 0) dX7_keepsAll_51 (by decide) ?_
  refine ok_aload_n C 0 dX7_keepsAll_52 rfl ?_
  refine ok_getI C frX7_235_11 dX7_keepsAll_53 (fun v1 => ?_)
  refine ok_iadd C dX7_keepsAll_56 ?_
  refine ok_callV C T [.int (0 + v1)] (F := fX7_keeps a0 (0 + v1)) (ctX7_keeps (C.2.2.2.2.2.2.2.2.1) a0 (0 + v1)) vlX7_389 viX7_keeps rfl rfl (by decide) rfl (by rw [hR.1, hR.2]; decide) (Nat.le_of_ble_eq_true rfl) dX7_keepsAll_57 (ok_qV fun s2 => ?_)
  refine ok_aload_n C 0 dX7_keepsAll_60 rfl ?_
  refine ok_dup C dX7_keepsAll_61 rfl ?_
  refine ok_getI C frX7_235_11 dX7_keepsAll_62 (fun v3 => ?_)
  refine ok_iconst C (v := 1) dX7_keepsAll_65 (by decide) ?_
  refine ok_iadd C dX7_keepsAll_66 ?_
  refine ok_putI C flX7_235_11 dX7_keepsAll_67 (fun s4 _ => ?_)
  exact ok_vreturn C dX7_keepsAll_70
set_option maxHeartbeats 4000000 in
theorem oX7_keepsAll_40 {Γ : CX} (C : OKC Γ cX7_keepsAll RX7 none) (T : ∀ z ∈ (cx_c Γ).exceptionTable.toList, False) (hn : cx_nL Γ = 2) (hR : cx_fr Γ = 2 ∧ cx_lo Γ = 82) (hin : (cx_meth Γ).name = yX7_keepsAll.name) : ∀ (a0 : Nat) (s0 : AS), OK Γ 40 [(0, .ref a0)] [] (fX7_keepsAll_40  a0 s0) s0 := by
  intro a0 s0
  unfold fX7_keepsAll_40
  refine ok_aload_n C 0 dX7_keepsAll_40 rfl ?_
  refine ok_dup C dX7_keepsAll_41 rfl ?_
  refine ok_getI C frX7_235_11 dX7_keepsAll_42 (fun v1 => ?_)
  refine ok_iconst C (v := 1) dX7_keepsAll_45 (by decide) ?_
  refine ok_isub C dX7_keepsAll_46 ?_
  refine ok_putI C flX7_235_11 dX7_keepsAll_47 (fun s2 _ => ?_)
  exact oX7_keepsAll_50 C T hn hR hin a0 s2
set_option maxHeartbeats 4000000 in
theorem oX7_keepsAll_11 {Γ : CX} (C : OKC Γ cX7_keepsAll RX7 none) (T : ∀ z ∈ (cx_c Γ).exceptionTable.toList, False) (hn : cx_nL Γ = 2) (hR : cx_fr Γ = 2 ∧ cx_lo Γ = 82) (hin : (cx_meth Γ).name = yX7_keepsAll.name) : ∀ (n : Nat) (a0 : Nat) (x1 : Int32) (s0 : AS), OK Γ 11 [(0, .ref a0), (1, .int x1)] [] (fX7_keepsAll_11 n a0 x1 s0) s0 := by
  intro n
  induction n with
  | zero => intro _ _ s0; exact OK.none
  | succ n ih =>
    intro a0 x1 s0
    rw [fX7_keepsAll_11]
    refine ok_iload_n C 1 dX7_keepsAll_11 rfl ?_
    refine ok_sipush C (v := 28784) dX7_keepsAll_12 (by decide) ?_
    refine ok_icmp_ge C 40 dX7_keepsAll_15 (by decide) ?_ ?_
    · refine OK.sub (lv' := [(0, .ref a0)]) [0] rfl ?_
      exact oX7_keepsAll_40 C T hn hR hin a0 s0
    · refine ok_aload_n C 0 dX7_keepsAll_18 rfl ?_
      refine ok_getR C frX7_24_11 dX7_keepsAll_19 (fun q1 => ?_)
      refine ok_iload_n C 1 dX7_keepsAll_22 rfl ?_
      refine ok_aload_n C 0 dX7_keepsAll_23 rfl ?_
      refine ok_getR C frX7_24_11 dX7_keepsAll_24 (fun q2 => ?_)
      refine ok_iload_n C 1 dX7_keepsAll_27 rfl ?_
      refine ok_sipush C (v := 4112) dX7_keepsAll_28 (by decide) ?_
      refine ok_iadd C dX7_keepsAll_31 ?_
      refine ok_iald C dX7_keepsAll_32 (fun v3 => ?_)
      refine ok_iast C dX7_keepsAll_33 (fun s4 _ => ?_)
      refine ok_iincL C 1 (c := 1) (fun v5 => [(1, .int v5), (0, .ref a0)]) dX7_keepsAll_34 rfl rfl (by rw [hn]; decide) (fun _ => rfl) (fun v5 => ?_)
      refine ok_goto C 11 dX7_keepsAll_37 (by decide) ?_
      refine OK.sub (lv' := [(0, .ref a0), (1, .int v5)]) [1, 0] rfl ?_
      exact ih a0 v5 s4
set_option maxHeartbeats 4000000 in
theorem oX7_keepsAll {Γ : CX} (C : OKC Γ cX7_keepsAll RX7 none) (T : ∀ z ∈ (cx_c Γ).exceptionTable.toList, False) (hn : cx_nL Γ = 2) (hR : cx_fr Γ = 2 ∧ cx_lo Γ = 82) (hin : (cx_meth Γ).name = yX7_keepsAll.name) : ∀ (a0 : Nat) (s0 : AS), OK Γ 0 [(0, .ref a0)] [] (fX7_keepsAll a0 s0) s0 := by
  intro a0 s0
  unfold fX7_keepsAll
  refine ok_aload_n C 0 dX7_keepsAll_0 rfl ?_
  refine ok_getI C frX7_235_11 dX7_keepsAll_1 (fun v1 => ?_)
  refine ok_bipush C (v := 8) dX7_keepsAll_4 (by decide) ?_
  refine ok_icmp_ne C 50 dX7_keepsAll_6 (by decide) ?_ ?_
  · exact oX7_keepsAll_50 C T hn hR hin a0 s0
  · refine ok_iconst C (v := 0) dX7_keepsAll_9 (by decide) ?_
    refine ok_istore_n C (i := 1) [(1, .int 0), (0, .ref a0)] dX7_keepsAll_10 rfl (by rw [hn]; decide) rfl ?_
    refine OK.sub (lv' := [(0, .ref a0), (1, .int 0)]) [1, 0] rfl ?_
    exact oX7_keepsAll_11 C T hn hR hin FU a0 0 s0
theorem ctX7_keepsAll {l : Launch} (hl : l.stackTraces = false) {D : va_G} {dA : Nat → ClassId} {B0 : Nat} (a0 : Nat) : Ct l D dA B0 yX7_keepsAll (.code yX7_keepsAll cX7_keepsAll 2 (none) :: ax_ALL) 2 82 [.ref a0] (fX7_keepsAll a0) :=
  Ct.of hl (by decide +kernel) (Nat.le_of_ble_eq_true rfl) fun Γ C _ _ _ _ e5 e6 e7 T hin => oX7_keepsAll C T e5 ⟨e6, e7⟩ hin a0 _
/-! ChaseLockerModel.place(II)I -/
def fX7_place_45  (a0 : Nat) (x1 : Int32) (x2 : Int32) (t0 : Nat) (t1 : Int32) (s0 : AS) : Option AR :=
  cV s0 t0 11 (fX7_refuse t0 t1 3 s0) (qI (fun v1 s2 =>
  if v1 = 0 then (
    cV s2 a0 11 (fX7_keepsAll a0 s2) (qV (fun s3 =>
    cV s3 a0 11 (fX7_adds a0 x1 x2 s3) (qV (fun s4 =>
    cV s4 a0 11 (fX7_gap a0 x1 s4) (qI (fun v5 s6 =>
    some (.inl (some (.int v5)), s6))))))))
  else (
    some (.inl (some (.int 0)), s2))))
def fX7_place_40  (a0 : Nat) (x1 : Int32) (x2 : Int32) (t0 : Nat) (s0 : AS) : Option AR :=
  fX7_place_45 a0 x1 x2 t0 1 s0
def fX7_place (a0 : Nat) (x1 : Int32) (x2 : Int32) (s0 : AS) : Option AR :=
  cV s0 a0 11 (fX7_noRow a0 x1 s0) (qI (fun v1 s2 =>
  if v1 = 0 then (
    cS s2 (fX7_in x2 1 200 s2) (qI (fun v3 s4 =>
    if v3 = 0 then (
      fX7_place_40 a0 x1 x2 a0 s4)
    else (
      cV s4 a0 11 (fX7_of a0 x1 0 s4) (qI (fun v5 s6 =>
      if v5 = (6 : Int32) then (
        fX7_place_40 a0 x1 x2 a0 s6)
      else (
        cV s6 a0 11 (fX7_gap a0 x1 s6) (qI (fun v7 s8 =>
        if x2 ≤ v7 then (
          fX7_place_45 a0 x1 x2 a0 0 s8)
        else (
          fX7_place_40 a0 x1 x2 a0 s8))))))))))
  else (
    some (.inl (some (.int 0)), s2))))
set_option maxHeartbeats 4000000 in
theorem oX7_place_45 {Γ : CX} (C : OKC Γ cX7_place RX7 (some (.int))) (T : ∀ z ∈ (cx_c Γ).exceptionTable.toList, False) (hn : cx_nL Γ = 3) (hR : cx_fr Γ = 6 ∧ cx_lo Γ = 168) (hin : (cx_meth Γ).name = yX7_place.name) : ∀ (a0 : Nat) (x1 : Int32) (x2 : Int32) (t0 : Nat) (t1 : Int32) (s0 : AS), OK Γ 45 [(0, .ref a0), (1, .int x1), (2, .int x2)] [.int t1, .ref t0] (fX7_place_45  a0 x1 x2 t0 t1 s0) s0 := by
  intro a0 x1 x2 t0 t1 s0
  unfold fX7_place_45
  refine ok_iconst C (v := 3) dX7_place_45 (by decide) ?_
  refine ok_callV C T [.int t1, .int 3] (F := fX7_refuse t0 t1 3) (ctX7_refuse (C.2.2.2.2.2.2.2.2.1) t0 t1 3) vlX7_74 viX7_refuse rfl rfl (by decide) rfl (by rw [hR.1, hR.2]; decide) (Nat.le_of_ble_eq_true rfl) dX7_place_46 (ok_qI fun v1 s2 => ?_)
  refine ok_if_eq C 54 dX7_place_49 (by decide) ?_ ?_
  · refine ok_aload_n C 0 dX7_place_54 rfl ?_
    refine ok_callV C T [] (F := fX7_keepsAll a0) (ctX7_keepsAll (C.2.2.2.2.2.2.2.2.1) a0) vlX7_392 viX7_keepsAll rfl rfl (by decide) rfl (by rw [hR.1, hR.2]; decide) (Nat.le_of_ble_eq_true rfl) dX7_place_55 (ok_qV fun s3 => ?_)
    refine ok_aload_n C 0 dX7_place_58 rfl ?_
    refine ok_iload_n C 1 dX7_place_59 rfl ?_
    refine ok_iload_n C 2 dX7_place_60 rfl ?_
    refine ok_callV C T [.int x1, .int x2] (F := fX7_adds a0 x1 x2) (ctX7_adds (C.2.2.2.2.2.2.2.2.1) a0 x1 x2) vlX7_195 viX7_adds rfl rfl (by decide) rfl (by rw [hR.1, hR.2]; decide) (Nat.le_of_ble_eq_true rfl) dX7_place_61 (ok_qV fun s4 => ?_)
    refine ok_aload_n C 0 dX7_place_64 rfl ?_
    refine ok_iload_n C 1 dX7_place_65 rfl ?_
    refine ok_callV C T [.int x1] (F := fX7_gap a0 x1) (ctX7_gap (C.2.2.2.2.2.2.2.2.1) a0 x1) vlX7_192 viX7_gap rfl rfl (by decide) rfl (by rw [hR.1, hR.2]; decide) (Nat.le_of_ble_eq_true rfl) dX7_place_66 (ok_qI fun v5 s6 => ?_)
    exact ok_ireturn C dX7_place_69
  · refine ok_iconst C (v := 0) dX7_place_52 (by decide) ?_
    exact ok_ireturn C dX7_place_53
set_option maxHeartbeats 4000000 in
theorem oX7_place_40 {Γ : CX} (C : OKC Γ cX7_place RX7 (some (.int))) (T : ∀ z ∈ (cx_c Γ).exceptionTable.toList, False) (hn : cx_nL Γ = 3) (hR : cx_fr Γ = 6 ∧ cx_lo Γ = 168) (hin : (cx_meth Γ).name = yX7_place.name) : ∀ (a0 : Nat) (x1 : Int32) (x2 : Int32) (t0 : Nat) (s0 : AS), OK Γ 40 [(0, .ref a0), (1, .int x1), (2, .int x2)] [.ref t0] (fX7_place_40  a0 x1 x2 t0 s0) s0 := by
  intro a0 x1 x2 t0 s0
  unfold fX7_place_40
  refine ok_iconst C (v := 1) dX7_place_40 (by decide) ?_
  refine ok_goto C 45 dX7_place_41 (by decide) ?_
  exact oX7_place_45 C T hn hR hin a0 x1 x2 t0 1 s0
set_option maxHeartbeats 4000000 in
theorem oX7_place {Γ : CX} (C : OKC Γ cX7_place RX7 (some (.int))) (T : ∀ z ∈ (cx_c Γ).exceptionTable.toList, False) (hn : cx_nL Γ = 3) (hR : cx_fr Γ = 6 ∧ cx_lo Γ = 168) (hin : (cx_meth Γ).name = yX7_place.name) : ∀ (a0 : Nat) (x1 : Int32) (x2 : Int32) (s0 : AS), OK Γ 0 [(0, .ref a0), (1, .int x1), (2, .int x2)] [] (fX7_place a0 x1 x2 s0) s0 := by
  intro a0 x1 x2 s0
  unfold fX7_place
  refine ok_aload_n C 0 dX7_place_0 rfl ?_
  refine ok_iload_n C 1 dX7_place_1 rfl ?_
  refine ok_callV C T [.int x1] (F := fX7_noRow a0 x1) (ctX7_noRow (C.2.2.2.2.2.2.2.2.1) a0 x1) vlX7_335 viX7_noRow rfl rfl (by decide) rfl (by rw [hR.1, hR.2]; decide) (Nat.le_of_ble_eq_true rfl) dX7_place_2 (ok_qI fun v1 s2 => ?_)
  refine ok_if_ne C 52 dX7_place_5 (by decide) ?_ ?_
  · refine ok_iconst C (v := 0) dX7_place_52 (by decide) ?_
    exact ok_ireturn C dX7_place_53
  · refine ok_aload_n C 0 dX7_place_8 rfl ?_
    refine ok_iload_n C 2 dX7_place_9 rfl ?_
    refine ok_iconst C (v := 1) dX7_place_10 (by decide) ?_
    refine ok_sipush C (v := 200) dX7_place_11 (by decide) ?_
    refine ok_callS C T [.int x2, .int 1, .int 200] (F := fX7_in x2 1 200) (ctX7_in (C.2.2.2.2.2.2.2.2.1) x2 1 200) vlX7_143 kw_793 rfl (by rw [hR.1, hR.2]; decide) (Nat.le_of_ble_eq_true rfl) dX7_place_14 (ok_qI fun v3 s4 => ?_)
    refine ok_if_eq C 40 dX7_place_17 (by decide) ?_ ?_
    · exact oX7_place_40 C T hn hR hin a0 x1 x2 a0 s4
    · refine ok_aload_n C 0 dX7_place_20 rfl ?_
      refine ok_iload_n C 1 dX7_place_21 rfl ?_
      refine ok_iconst C (v := 0) dX7_place_22 (by decide) ?_
      refine ok_callV C T [.int x1, .int 0] (F := fX7_of a0 x1 0) (ctX7_of (C.2.2.2.2.2.2.2.2.1) a0 x1 0) vlX7_189 viX7_of rfl rfl (by decide) rfl (by rw [hR.1, hR.2]; decide) (Nat.le_of_ble_eq_true rfl) dX7_place_23 (ok_qI fun v5 s6 => ?_)
      refine ok_bipush C (v := 6) dX7_place_26 (by decide) ?_
      refine ok_icmp_eq C 40 dX7_place_28 (by decide) ?_ ?_
      · exact oX7_place_40 C T hn hR hin a0 x1 x2 a0 s6
      · refine ok_aload_n C 0 dX7_place_31 rfl ?_
        refine ok_iload_n C 1 dX7_place_32 rfl ?_
        refine ok_callV C T [.int x1] (F := fX7_gap a0 x1) (ctX7_gap (C.2.2.2.2.2.2.2.2.1) a0 x1) vlX7_192 viX7_gap rfl rfl (by decide) rfl (by rw [hR.1, hR.2]; decide) (Nat.le_of_ble_eq_true rfl) dX7_place_33 (ok_qI fun v7 s8 => ?_)
        refine ok_iload_n C 2 dX7_place_36 rfl ?_
        refine ok_icmp_ge C 44 dX7_place_37 (by decide) ?_ ?_
        · refine ok_iconst C (v := 0) dX7_place_44 (by decide) ?_
          exact oX7_place_45 C T hn hR hin a0 x1 x2 a0 0 s8
        · exact oX7_place_40 C T hn hR hin a0 x1 x2 a0 s8
theorem ctX7_place {l : Launch} (hl : l.stackTraces = false) {D : va_G} {dA : Nat → ClassId} {B0 : Nat} (a0 : Nat) (x1 : Int32) (x2 : Int32) : Ct l D dA B0 yX7_place (.code yX7_place cX7_place 3 (some (.int)) :: ax_ALL) 6 168 [.ref a0, .int x1, .int x2] (fX7_place a0 x1 x2) :=
  Ct.of hl (by decide +kernel) (Nat.le_of_ble_eq_true rfl) fun Γ C _ _ _ _ e5 e6 e7 T hin => oX7_place C T e5 ⟨e6, e7⟩ hin a0 x1 x2 _
/-! ChaseLockerModel.lift(II)I -/
def fX7_lift_94  (a0 : Nat) (x1 : Int32) (x3 : Int32) (s0 : AS) : Option AR :=
  cV s0 a0 11 (fX7_of a0 x1 0 s0) (qI (fun v1 s2 =>
  cV s2 a0 11 (fX7_puts a0 x1 0 (v1 - 1) s2) (qV (fun s3 =>
  some (.inl (some (.int x3)), s3)))))
def fX7_lift_55  : Nat → Nat → Int32 → Int32 → Int32 → AS → Option AR
  | 0, _, _, _, _, _ => none
  | n + 1, a0, x1, x3, x4, s0 =>
    cV s0 a0 11 (fX7_of a0 x1 0 s0) (qI (fun v1 s2 =>
    if (v1 - 1) ≤ x4 then (
      fX7_lift_94 a0 x1 x3 s2)
    else (
      cV s2 a0 11 (fX7_of a0 x1 ((5 + x4) + 1) s2) (qI (fun v3 s4 =>
      cV s4 a0 11 (fX7_puts a0 x1 (5 + x4) v3 s4) (qV (fun s5 =>
      lt (x4 + 1) (fun v6 =>
      fX7_lift_55 n a0 x1 x3 v6 s5))))))))
def fX7_lift_30  (a0 : Nat) (x1 : Int32) (x2 : Int32) (t0 : Nat) (t1 : Int32) (s0 : AS) : Option AR :=
  cV s0 t0 11 (fX7_refuse t0 t1 2 s0) (qI (fun v1 s2 =>
  if v1 = 0 then (
    cV s2 a0 11 (fX7_keepsAll a0 s2) (qV (fun s3 =>
    cV s3 a0 11 (fX7_of a0 x1 (5 + x2) s3) (qI (fun v4 s5 =>
    fX7_lift_55 FU a0 x1 v4 x2 s5)))))
  else (
    some (.inl (some (.int 0)), s2))))
def fX7_lift (a0 : Nat) (x1 : Int32) (x2 : Int32) (s0 : AS) : Option AR :=
  cV s0 a0 11 (fX7_noRow a0 x1 s0) (qI (fun v1 s2 =>
  if v1 = 0 then (
    cV s2 a0 11 (fX7_of a0 x1 0 s2) (qI (fun v3 s4 =>
    cS s4 (fX7_in x2 0 (v3 - 1) s4) (qI (fun v5 s6 =>
    if v5 = 0 then (
      fX7_lift_30 a0 x1 x2 a0 1 s6)
    else (
      fX7_lift_30 a0 x1 x2 a0 0 s6))))))
  else (
    some (.inl (some (.int 0)), s2))))
set_option maxHeartbeats 4000000 in
theorem oX7_lift_94 {Γ : CX} (C : OKC Γ cX7_lift RX7 (some (.int))) (T : ∀ z ∈ (cx_c Γ).exceptionTable.toList, False) (hn : cx_nL Γ = 5) (hR : cx_fr Γ = 4 ∧ cx_lo Γ = 124) (hin : (cx_meth Γ).name = yX7_lift.name) : ∀ (a0 : Nat) (x1 : Int32) (x3 : Int32) (s0 : AS), OK Γ 94 [(0, .ref a0), (1, .int x1), (3, .int x3)] [] (fX7_lift_94  a0 x1 x3 s0) s0 := by
  intro a0 x1 x3 s0
  unfold fX7_lift_94
  refine ok_aload_n C 0 dX7_lift_94 rfl ?_
  refine ok_iload_n C 1 dX7_lift_95 rfl ?_
  refine ok_iconst C (v := 0) dX7_lift_96 (by decide) ?_
  refine ok_aload_n C 0 dX7_lift_97 rfl ?_
  refine ok_iload_n C 1 dX7_lift_98 rfl ?_
  refine ok_iconst C (v := 0) dX7_lift_99 (by decide) ?_
  refine ok_callV C T [.int x1, .int 0] (F := fX7_of a0 x1 0) (ctX7_of (C.2.2.2.2.2.2.2.2.1) a0 x1 0) vlX7_189 viX7_of rfl rfl (by decide) rfl (by rw [hR.1, hR.2]; decide) (Nat.le_of_ble_eq_true rfl) dX7_lift_100 (ok_qI fun v1 s2 => ?_)
  refine ok_iconst C (v := 1) dX7_lift_103 (by decide) ?_
  refine ok_isub C dX7_lift_104 ?_
  refine ok_callV C T [.int x1, .int 0, .int (v1 - 1)] (F := fX7_puts a0 x1 0 (v1 - 1)) (ctX7_puts (C.2.2.2.2.2.2.2.2.1) a0 x1 0 (v1 - 1)) vlX7_178 viX7_puts rfl rfl (by decide) rfl (by rw [hR.1, hR.2]; decide) (Nat.le_of_ble_eq_true rfl) dX7_lift_105 (ok_qV fun s3 => ?_)
  refine ok_iload_n C 2 dX7_lift_108 rfl ?_
  exact ok_ireturn C dX7_lift_109
set_option maxHeartbeats 4000000 in
theorem oX7_lift_55 {Γ : CX} (C : OKC Γ cX7_lift RX7 (some (.int))) (T : ∀ z ∈ (cx_c Γ).exceptionTable.toList, False) (hn : cx_nL Γ = 5) (hR : cx_fr Γ = 4 ∧ cx_lo Γ = 124) (hin : (cx_meth Γ).name = yX7_lift.name) : ∀ (n : Nat) (a0 : Nat) (x1 : Int32) (x3 : Int32) (x4 : Int32) (s0 : AS), OK Γ 55 [(0, .ref a0), (1, .int x1), (3, .int x3), (4, .int x4)] [] (fX7_lift_55 n a0 x1 x3 x4 s0) s0 := by
  intro n
  induction n with
  | zero => intro _ _ _ _ s0; exact OK.none
  | succ n ih =>
    intro a0 x1 x3 x4 s0
    rw [fX7_lift_55]
    refine ok_iload C 3 dX7_lift_55 rfl ?_
    refine ok_aload_n C 0 dX7_lift_57 rfl ?_
    refine ok_iload_n C 1 dX7_lift_58 rfl ?_
    refine ok_iconst C (v := 0) dX7_lift_59 (by decide) ?_
    refine ok_callV C T [.int x1, .int 0] (F := fX7_of a0 x1 0) (ctX7_of (C.2.2.2.2.2.2.2.2.1) a0 x1 0) vlX7_189 viX7_of rfl rfl (by decide) rfl (by rw [hR.1, hR.2]; decide) (Nat.le_of_ble_eq_true rfl) dX7_lift_60 (ok_qI fun v1 s2 => ?_)
    refine ok_iconst C (v := 1) dX7_lift_63 (by decide) ?_
    refine ok_isub C dX7_lift_64 ?_
    refine ok_icmp_ge C 94 dX7_lift_65 (by decide) ?_ ?_
    · refine OK.sub (lv' := [(0, .ref a0), (1, .int x1), (3, .int x3)]) [0, 1, 2] rfl ?_
      exact oX7_lift_94 C T hn hR hin a0 x1 x3 s2
    · refine ok_aload_n C 0 dX7_lift_68 rfl ?_
      refine ok_iload_n C 1 dX7_lift_69 rfl ?_
      refine ok_iconst C (v := 5) dX7_lift_70 (by decide) ?_
      refine ok_iload C 3 dX7_lift_71 rfl ?_
      refine ok_iadd C dX7_lift_73 ?_
      refine ok_aload_n C 0 dX7_lift_74 rfl ?_
      refine ok_iload_n C 1 dX7_lift_75 rfl ?_
      refine ok_iconst C (v := 5) dX7_lift_76 (by decide) ?_
      refine ok_iload C 3 dX7_lift_77 rfl ?_
      refine ok_iadd C dX7_lift_79 ?_
      refine ok_iconst C (v := 1) dX7_lift_80 (by decide) ?_
      refine ok_iadd C dX7_lift_81 ?_
      refine ok_callV C T [.int x1, .int ((5 + x4) + 1)] (F := fX7_of a0 x1 ((5 + x4) + 1)) (ctX7_of (C.2.2.2.2.2.2.2.2.1) a0 x1 ((5 + x4) + 1)) vlX7_189 viX7_of rfl rfl (by decide) rfl (by rw [hR.1, hR.2]; decide) (Nat.le_of_ble_eq_true rfl) dX7_lift_82 (ok_qI fun v3 s4 => ?_)
      refine ok_callV C T [.int x1, .int (5 + x4), .int v3] (F := fX7_puts a0 x1 (5 + x4) v3) (ctX7_puts (C.2.2.2.2.2.2.2.2.1) a0 x1 (5 + x4) v3) vlX7_178 viX7_puts rfl rfl (by decide) rfl (by rw [hR.1, hR.2]; decide) (Nat.le_of_ble_eq_true rfl) dX7_lift_85 (ok_qV fun s5 => ?_)
      refine ok_iincL C 3 (c := 1) (fun v6 => [(4, .int v6), (0, .ref a0), (1, .int x1), (3, .int x3)]) dX7_lift_88 rfl rfl (by rw [hn]; decide) (fun _ => rfl) (fun v6 => ?_)
      refine ok_goto C 55 dX7_lift_91 (by decide) ?_
      refine OK.sub (lv' := [(0, .ref a0), (1, .int x1), (3, .int x3), (4, .int v6)]) [1, 2, 3, 0] rfl ?_
      exact ih a0 x1 x3 v6 s5
set_option maxHeartbeats 4000000 in
theorem oX7_lift_30 {Γ : CX} (C : OKC Γ cX7_lift RX7 (some (.int))) (T : ∀ z ∈ (cx_c Γ).exceptionTable.toList, False) (hn : cx_nL Γ = 5) (hR : cx_fr Γ = 4 ∧ cx_lo Γ = 124) (hin : (cx_meth Γ).name = yX7_lift.name) : ∀ (a0 : Nat) (x1 : Int32) (x2 : Int32) (t0 : Nat) (t1 : Int32) (s0 : AS), OK Γ 30 [(0, .ref a0), (1, .int x1), (2, .int x2)] [.int t1, .ref t0] (fX7_lift_30  a0 x1 x2 t0 t1 s0) s0 := by
  intro a0 x1 x2 t0 t1 s0
  unfold fX7_lift_30
  refine ok_iconst C (v := 2) dX7_lift_30 (by decide) ?_
  refine ok_callV C T [.int t1, .int 2] (F := fX7_refuse t0 t1 2) (ctX7_refuse (C.2.2.2.2.2.2.2.2.1) t0 t1 2) vlX7_74 viX7_refuse rfl rfl (by decide) rfl (by rw [hR.1, hR.2]; decide) (Nat.le_of_ble_eq_true rfl) dX7_lift_31 (ok_qI fun v1 s2 => ?_)
  refine ok_if_eq C 39 dX7_lift_34 (by decide) ?_ ?_
  · refine ok_aload_n C 0 dX7_lift_39 rfl ?_
    refine ok_callV C T [] (F := fX7_keepsAll a0) (ctX7_keepsAll (C.2.2.2.2.2.2.2.2.1) a0) vlX7_392 viX7_keepsAll rfl rfl (by decide) rfl (by rw [hR.1, hR.2]; decide) (Nat.le_of_ble_eq_true rfl) dX7_lift_40 (ok_qV fun s3 => ?_)
    refine ok_aload_n C 0 dX7_lift_43 rfl ?_
    refine ok_iload_n C 1 dX7_lift_44 rfl ?_
    refine ok_iconst C (v := 5) dX7_lift_45 (by decide) ?_
    refine ok_iload_n C 2 dX7_lift_46 rfl ?_
    refine ok_iadd C dX7_lift_47 ?_
    refine ok_callV C T [.int x1, .int (5 + x2)] (F := fX7_of a0 x1 (5 + x2)) (ctX7_of (C.2.2.2.2.2.2.2.2.1) a0 x1 (5 + x2)) vlX7_189 viX7_of rfl rfl (by decide) rfl (by rw [hR.1, hR.2]; decide) (Nat.le_of_ble_eq_true rfl) dX7_lift_48 (ok_qI fun v4 s5 => ?_)
    refine ok_istore_n C (i := 3) [(3, .int v4), (0, .ref a0), (1, .int x1), (2, .int x2)] dX7_lift_51 rfl (by rw [hn]; decide) rfl ?_
    refine ok_iload_n C 3 dX7_lift_52 rfl ?_
    refine ok_istore C (i := 4) [(4, .int x2), (3, .int v4), (0, .ref a0), (1, .int x1), (2, .int x2)] dX7_lift_53 (by rw [hn]; decide) rfl ?_
    refine OK.sub (lv' := [(0, .ref a0), (1, .int x1), (3, .int v4), (4, .int x2)]) [2, 3, 1, 0] rfl ?_
    exact oX7_lift_55 C T hn hR hin FU a0 x1 v4 x2 s5
  · refine ok_iconst C (v := 0) dX7_lift_37 (by decide) ?_
    exact ok_ireturn C dX7_lift_38
set_option maxHeartbeats 4000000 in
theorem oX7_lift {Γ : CX} (C : OKC Γ cX7_lift RX7 (some (.int))) (T : ∀ z ∈ (cx_c Γ).exceptionTable.toList, False) (hn : cx_nL Γ = 5) (hR : cx_fr Γ = 4 ∧ cx_lo Γ = 124) (hin : (cx_meth Γ).name = yX7_lift.name) : ∀ (a0 : Nat) (x1 : Int32) (x2 : Int32) (s0 : AS), OK Γ 0 [(0, .ref a0), (1, .int x1), (2, .int x2)] [] (fX7_lift a0 x1 x2 s0) s0 := by
  intro a0 x1 x2 s0
  unfold fX7_lift
  refine ok_aload_n C 0 dX7_lift_0 rfl ?_
  refine ok_iload_n C 1 dX7_lift_1 rfl ?_
  refine ok_callV C T [.int x1] (F := fX7_noRow a0 x1) (ctX7_noRow (C.2.2.2.2.2.2.2.2.1) a0 x1) vlX7_335 viX7_noRow rfl rfl (by decide) rfl (by rw [hR.1, hR.2]; decide) (Nat.le_of_ble_eq_true rfl) dX7_lift_2 (ok_qI fun v1 s2 => ?_)
  refine ok_if_ne C 37 dX7_lift_5 (by decide) ?_ ?_
  · refine ok_iconst C (v := 0) dX7_lift_37 (by decide) ?_
    exact ok_ireturn C dX7_lift_38
  · refine ok_aload_n C 0 dX7_lift_8 rfl ?_
    refine ok_iload_n C 2 dX7_lift_9 rfl ?_
    refine ok_iconst C (v := 0) dX7_lift_10 (by decide) ?_
    refine ok_aload_n C 0 dX7_lift_11 rfl ?_
    refine ok_iload_n C 1 dX7_lift_12 rfl ?_
    refine ok_iconst C (v := 0) dX7_lift_13 (by decide) ?_
    refine ok_callV C T [.int x1, .int 0] (F := fX7_of a0 x1 0) (ctX7_of (C.2.2.2.2.2.2.2.2.1) a0 x1 0) vlX7_189 viX7_of rfl rfl (by decide) rfl (by rw [hR.1, hR.2]; decide) (Nat.le_of_ble_eq_true rfl) dX7_lift_14 (ok_qI fun v3 s4 => ?_)
    refine ok_iconst C (v := 1) dX7_lift_17 (by decide) ?_
    refine ok_isub C dX7_lift_18 ?_
    refine ok_callS C T [.int x2, .int 0, .int (v3 - 1)] (F := fX7_in x2 0 (v3 - 1)) (ctX7_in (C.2.2.2.2.2.2.2.2.1) x2 0 (v3 - 1)) vlX7_143 kw_793 rfl (by rw [hR.1, hR.2]; decide) (Nat.le_of_ble_eq_true rfl) dX7_lift_19 (ok_qI fun v5 s6 => ?_)
    refine ok_if_ne C 29 dX7_lift_22 (by decide) ?_ ?_
    · refine ok_iconst C (v := 0) dX7_lift_29 (by decide) ?_
      exact oX7_lift_30 C T hn hR hin a0 x1 x2 a0 0 s6
    · refine ok_iconst C (v := 1) dX7_lift_25 (by decide) ?_
      refine ok_goto C 30 dX7_lift_26 (by decide) ?_
      exact oX7_lift_30 C T hn hR hin a0 x1 x2 a0 1 s6
theorem ctX7_lift {l : Launch} (hl : l.stackTraces = false) {D : va_G} {dA : Nat → ClassId} {B0 : Nat} (a0 : Nat) (x1 : Int32) (x2 : Int32) : Ct l D dA B0 yX7_lift (.code yX7_lift cX7_lift 5 (some (.int)) :: ax_ALL) 4 124 [.ref a0, .int x1, .int x2] (fX7_lift a0 x1 x2) :=
  Ct.of hl (by decide +kernel) (Nat.le_of_ble_eq_true rfl) fun Γ C _ _ _ _ e5 e6 e7 T hin => oX7_lift C T e5 ⟨e6, e7⟩ hin a0 x1 x2 _
/-! ChaseLockerModel.put(II)I -/
def fX7_put_61  (a0 : Nat) (x1 : Int32) (x2 : Int32) (t0 : Nat) (t1 : Int32) (s0 : AS) : Option AR :=
  cV s0 t0 11 (fX7_refuse t0 t1 3 s0) (qI (fun v1 s2 =>
  if v1 = 0 then (
    cV s2 a0 11 (fX7_keepsAll a0 s2) (qV (fun s3 =>
    cV s3 a0 11 (fX7_putsPiece a0 x1 x2 s3) (qV (fun s4 =>
    cV s4 a0 11 (fX7_gap a0 x1 s4) (qI (fun v5 s6 =>
    some (.inl (some (.int v5)), s6))))))))
  else (
    some (.inl (some (.int 0)), s2))))
def fX7_put_56  (a0 : Nat) (x1 : Int32) (x2 : Int32) (t0 : Nat) (s0 : AS) : Option AR :=
  fX7_put_61 a0 x1 x2 t0 1 s0
def fX7_put_22  (a0 : Nat) (x1 : Int32) (x2 : Int32) (t0 : Nat) (t1 : Int32) (s0 : AS) : Option AR :=
  cV s0 t0 11 (fX7_refuse t0 t1 2 s0) (qI (fun v1 s2 =>
  if v1 = 0 then (
    gR s2 a0 11 12 (fun q3 =>
    aI s2 q3 100 (6 + x2) (fun v4 =>
    if v4 = 0 then (
      fX7_put_56 a0 x1 x2 a0 s2)
    else (
      cV s2 a0 11 (fX7_gap a0 x1 s2) (qI (fun v5 s6 =>
      gR s6 a0 11 11 (fun q7 =>
      aI s6 q7 100 x2 (fun v8 =>
      if v8 ≤ v5 then (
        fX7_put_61 a0 x1 x2 a0 0 s6)
      else (
        fX7_put_56 a0 x1 x2 a0 s6)))))))))
  else (
    some (.inl (some (.int 0)), s2))))
def fX7_put (a0 : Nat) (x1 : Int32) (x2 : Int32) (s0 : AS) : Option AR :=
  cV s0 a0 11 (fX7_noRow a0 x1 s0) (qI (fun v1 s2 =>
  if v1 = 0 then (
    cV s2 a0 11 (fX7_isKind a0 x2 s2) (qI (fun v3 s4 =>
    if v3 = 0 then (
      fX7_put_22 a0 x1 x2 a0 1 s4)
    else (
      fX7_put_22 a0 x1 x2 a0 0 s4))))
  else (
    some (.inl (some (.int 0)), s2))))
set_option maxHeartbeats 4000000 in
theorem oX7_put_61 {Γ : CX} (C : OKC Γ cX7_put RX7 (some (.int))) (T : ∀ z ∈ (cx_c Γ).exceptionTable.toList, False) (hn : cx_nL Γ = 3) (hR : cx_fr Γ = 6 ∧ cx_lo Γ = 168) (hin : (cx_meth Γ).name = yX7_put.name) : ∀ (a0 : Nat) (x1 : Int32) (x2 : Int32) (t0 : Nat) (t1 : Int32) (s0 : AS), OK Γ 61 [(0, .ref a0), (1, .int x1), (2, .int x2)] [.int t1, .ref t0] (fX7_put_61  a0 x1 x2 t0 t1 s0) s0 := by
  intro a0 x1 x2 t0 t1 s0
  unfold fX7_put_61
  refine ok_iconst C (v := 3) dX7_put_61 (by decide) ?_
  refine ok_callV C T [.int t1, .int 3] (F := fX7_refuse t0 t1 3) (ctX7_refuse (C.2.2.2.2.2.2.2.2.1) t0 t1 3) vlX7_74 viX7_refuse rfl rfl (by decide) rfl (by rw [hR.1, hR.2]; decide) (Nat.le_of_ble_eq_true rfl) dX7_put_62 (ok_qI fun v1 s2 => ?_)
  refine ok_if_eq C 70 dX7_put_65 (by decide) ?_ ?_
  · refine ok_aload_n C 0 dX7_put_70 rfl ?_
    refine ok_callV C T [] (F := fX7_keepsAll a0) (ctX7_keepsAll (C.2.2.2.2.2.2.2.2.1) a0) vlX7_392 viX7_keepsAll rfl rfl (by decide) rfl (by rw [hR.1, hR.2]; decide) (Nat.le_of_ble_eq_true rfl) dX7_put_71 (ok_qV fun s3 => ?_)
    refine ok_aload_n C 0 dX7_put_74 rfl ?_
    refine ok_iload_n C 1 dX7_put_75 rfl ?_
    refine ok_iload_n C 2 dX7_put_76 rfl ?_
    refine ok_callV C T [.int x1, .int x2] (F := fX7_putsPiece a0 x1 x2) (ctX7_putsPiece (C.2.2.2.2.2.2.2.2.1) a0 x1 x2) vlX7_314 viX7_putsPiece rfl rfl (by decide) rfl (by rw [hR.1, hR.2]; decide) (Nat.le_of_ble_eq_true rfl) dX7_put_77 (ok_qV fun s4 => ?_)
    refine ok_aload_n C 0 dX7_put_80 rfl ?_
    refine ok_iload_n C 1 dX7_put_81 rfl ?_
    refine ok_callV C T [.int x1] (F := fX7_gap a0 x1) (ctX7_gap (C.2.2.2.2.2.2.2.2.1) a0 x1) vlX7_192 viX7_gap rfl rfl (by decide) rfl (by rw [hR.1, hR.2]; decide) (Nat.le_of_ble_eq_true rfl) dX7_put_82 (ok_qI fun v5 s6 => ?_)
    exact ok_ireturn C dX7_put_85
  · refine ok_iconst C (v := 0) dX7_put_68 (by decide) ?_
    exact ok_ireturn C dX7_put_69
set_option maxHeartbeats 4000000 in
theorem oX7_put_56 {Γ : CX} (C : OKC Γ cX7_put RX7 (some (.int))) (T : ∀ z ∈ (cx_c Γ).exceptionTable.toList, False) (hn : cx_nL Γ = 3) (hR : cx_fr Γ = 6 ∧ cx_lo Γ = 168) (hin : (cx_meth Γ).name = yX7_put.name) : ∀ (a0 : Nat) (x1 : Int32) (x2 : Int32) (t0 : Nat) (s0 : AS), OK Γ 56 [(0, .ref a0), (1, .int x1), (2, .int x2)] [.ref t0] (fX7_put_56  a0 x1 x2 t0 s0) s0 := by
  intro a0 x1 x2 t0 s0
  unfold fX7_put_56
  refine ok_iconst C (v := 1) dX7_put_56 (by decide) ?_
  refine ok_goto C 61 dX7_put_57 (by decide) ?_
  exact oX7_put_61 C T hn hR hin a0 x1 x2 t0 1 s0
set_option maxHeartbeats 4000000 in
theorem oX7_put_22 {Γ : CX} (C : OKC Γ cX7_put RX7 (some (.int))) (T : ∀ z ∈ (cx_c Γ).exceptionTable.toList, False) (hn : cx_nL Γ = 3) (hR : cx_fr Γ = 6 ∧ cx_lo Γ = 168) (hin : (cx_meth Γ).name = yX7_put.name) : ∀ (a0 : Nat) (x1 : Int32) (x2 : Int32) (t0 : Nat) (t1 : Int32) (s0 : AS), OK Γ 22 [(0, .ref a0), (1, .int x1), (2, .int x2)] [.int t1, .ref t0] (fX7_put_22  a0 x1 x2 t0 t1 s0) s0 := by
  intro a0 x1 x2 t0 t1 s0
  unfold fX7_put_22
  refine ok_iconst C (v := 2) dX7_put_22 (by decide) ?_
  refine ok_callV C T [.int t1, .int 2] (F := fX7_refuse t0 t1 2) (ctX7_refuse (C.2.2.2.2.2.2.2.2.1) t0 t1 2) vlX7_74 viX7_refuse rfl rfl (by decide) rfl (by rw [hR.1, hR.2]; decide) (Nat.le_of_ble_eq_true rfl) dX7_put_23 (ok_qI fun v1 s2 => ?_)
  refine ok_if_ne C 68 dX7_put_26 (by decide) ?_ ?_
  · refine ok_iconst C (v := 0) dX7_put_68 (by decide) ?_
    exact ok_ireturn C dX7_put_69
  · refine ok_aload_n C 0 dX7_put_29 rfl ?_
    refine ok_aload_n C 0 dX7_put_30 rfl ?_
    refine ok_getR C frX7_17_11 dX7_put_31 (fun q3 => ?_)
    refine ok_bipush C (v := 6) dX7_put_34 (by decide) ?_
    refine ok_iload_n C 2 dX7_put_36 rfl ?_
    refine ok_iadd C dX7_put_37 ?_
    refine ok_iald C dX7_put_38 (fun v4 => ?_)
    refine ok_if_eq C 56 dX7_put_39 (by decide) ?_ ?_
    · exact oX7_put_56 C T hn hR hin a0 x1 x2 a0 s2
    · refine ok_aload_n C 0 dX7_put_42 rfl ?_
      refine ok_iload_n C 1 dX7_put_43 rfl ?_
      refine ok_callV C T [.int x1] (F := fX7_gap a0 x1) (ctX7_gap (C.2.2.2.2.2.2.2.2.1) a0 x1) vlX7_192 viX7_gap rfl rfl (by decide) rfl (by rw [hR.1, hR.2]; decide) (Nat.le_of_ble_eq_true rfl) dX7_put_44 (ok_qI fun v5 s6 => ?_)
      refine ok_aload_n C 0 dX7_put_47 rfl ?_
      refine ok_getR C frX7_13_11 dX7_put_48 (fun q7 => ?_)
      refine ok_iload_n C 2 dX7_put_51 rfl ?_
      refine ok_iald C dX7_put_52 (fun v8 => ?_)
      refine ok_icmp_ge C 60 dX7_put_53 (by decide) ?_ ?_
      · refine ok_iconst C (v := 0) dX7_put_60 (by decide) ?_
        exact oX7_put_61 C T hn hR hin a0 x1 x2 a0 0 s6
      · exact oX7_put_56 C T hn hR hin a0 x1 x2 a0 s6
set_option maxHeartbeats 4000000 in
theorem oX7_put {Γ : CX} (C : OKC Γ cX7_put RX7 (some (.int))) (T : ∀ z ∈ (cx_c Γ).exceptionTable.toList, False) (hn : cx_nL Γ = 3) (hR : cx_fr Γ = 6 ∧ cx_lo Γ = 168) (hin : (cx_meth Γ).name = yX7_put.name) : ∀ (a0 : Nat) (x1 : Int32) (x2 : Int32) (s0 : AS), OK Γ 0 [(0, .ref a0), (1, .int x1), (2, .int x2)] [] (fX7_put a0 x1 x2 s0) s0 := by
  intro a0 x1 x2 s0
  unfold fX7_put
  refine ok_aload_n C 0 dX7_put_0 rfl ?_
  refine ok_iload_n C 1 dX7_put_1 rfl ?_
  refine ok_callV C T [.int x1] (F := fX7_noRow a0 x1) (ctX7_noRow (C.2.2.2.2.2.2.2.2.1) a0 x1) vlX7_335 viX7_noRow rfl rfl (by decide) rfl (by rw [hR.1, hR.2]; decide) (Nat.le_of_ble_eq_true rfl) dX7_put_2 (ok_qI fun v1 s2 => ?_)
  refine ok_if_ne C 68 dX7_put_5 (by decide) ?_ ?_
  · refine ok_iconst C (v := 0) dX7_put_68 (by decide) ?_
    exact ok_ireturn C dX7_put_69
  · refine ok_aload_n C 0 dX7_put_8 rfl ?_
    refine ok_aload_n C 0 dX7_put_9 rfl ?_
    refine ok_iload_n C 2 dX7_put_10 rfl ?_
    refine ok_callV C T [.int x2] (F := fX7_isKind a0 x2) (ctX7_isKind (C.2.2.2.2.2.2.2.2.1) a0 x2) vlX7_338 viX7_isKind rfl rfl (by decide) rfl (by rw [hR.1, hR.2]; decide) (Nat.le_of_ble_eq_true rfl) dX7_put_11 (ok_qI fun v3 s4 => ?_)
    refine ok_if_ne C 21 dX7_put_14 (by decide) ?_ ?_
    · refine ok_iconst C (v := 0) dX7_put_21 (by decide) ?_
      exact oX7_put_22 C T hn hR hin a0 x1 x2 a0 0 s4
    · refine ok_iconst C (v := 1) dX7_put_17 (by decide) ?_
      refine ok_goto C 22 dX7_put_18 (by decide) ?_
      exact oX7_put_22 C T hn hR hin a0 x1 x2 a0 1 s4
theorem ctX7_put {l : Launch} (hl : l.stackTraces = false) {D : va_G} {dA : Nat → ClassId} {B0 : Nat} (a0 : Nat) (x1 : Int32) (x2 : Int32) : Ct l D dA B0 yX7_put (.code yX7_put cX7_put 3 (some (.int)) :: ax_ALL) 6 168 [.ref a0, .int x1, .int x2] (fX7_put a0 x1 x2) :=
  Ct.of hl (by decide +kernel) (Nat.le_of_ble_eq_true rfl) fun Γ C _ _ _ _ e5 e6 e7 T hin => oX7_put C T e5 ⟨e6, e7⟩ hin a0 x1 x2 _
/-! ChaseLockerModel.take(II)I -/
def fX7_take_97  (a0 : Nat) (x1 : Int32) (x3 : Int32) (s0 : AS) : Option AR :=
  cV s0 a0 11 (fX7_of a0 x1 1 s0) (qI (fun v1 s2 =>
  cV s2 a0 11 (fX7_puts a0 x1 1 (v1 - 1) s2) (qV (fun s3 =>
  gR s3 a0 11 12 (fun q4 =>
  aI s3 q4 100 (6 + x3) (fun v5 =>
  uI s3 q4 (6 + x3) (v5 + 1) (fun s6 =>
  some (.inl (some (.int x3)), s6))))))))
def fX7_take_56  : Nat → Nat → Int32 → Int32 → Int32 → AS → Option AR
  | 0, _, _, _, _, _ => none
  | n + 1, a0, x1, x3, x4, s0 =>
    cV s0 a0 11 (fX7_of a0 x1 1 s0) (qI (fun v1 s2 =>
    if (v1 - 1) ≤ x4 then (
      fX7_take_97 a0 x1 x3 s2)
    else (
      cV s2 a0 11 (fX7_of a0 x1 ((11 + x4) + 1) s2) (qI (fun v3 s4 =>
      cV s4 a0 11 (fX7_puts a0 x1 (11 + x4) v3 s4) (qV (fun s5 =>
      lt (x4 + 1) (fun v6 =>
      fX7_take_56 n a0 x1 x3 v6 s5))))))))
def fX7_take_30  (a0 : Nat) (x1 : Int32) (x2 : Int32) (t0 : Nat) (t1 : Int32) (s0 : AS) : Option AR :=
  cV s0 t0 11 (fX7_refuse t0 t1 2 s0) (qI (fun v1 s2 =>
  if v1 = 0 then (
    cV s2 a0 11 (fX7_keepsAll a0 s2) (qV (fun s3 =>
    cV s3 a0 11 (fX7_of a0 x1 (11 + x2) s3) (qI (fun v4 s5 =>
    fX7_take_56 FU a0 x1 v4 x2 s5)))))
  else (
    some (.inl (some (.int 0)), s2))))
def fX7_take (a0 : Nat) (x1 : Int32) (x2 : Int32) (s0 : AS) : Option AR :=
  cV s0 a0 11 (fX7_noRow a0 x1 s0) (qI (fun v1 s2 =>
  if v1 = 0 then (
    cV s2 a0 11 (fX7_of a0 x1 1 s2) (qI (fun v3 s4 =>
    cS s4 (fX7_in x2 0 (v3 - 1) s4) (qI (fun v5 s6 =>
    if v5 = 0 then (
      fX7_take_30 a0 x1 x2 a0 1 s6)
    else (
      fX7_take_30 a0 x1 x2 a0 0 s6))))))
  else (
    some (.inl (some (.int 0)), s2))))
set_option maxHeartbeats 4000000 in
theorem oX7_take_97 {Γ : CX} (C : OKC Γ cX7_take RX7 (some (.int))) (T : ∀ z ∈ (cx_c Γ).exceptionTable.toList, False) (hn : cx_nL Γ = 5) (hR : cx_fr Γ = 4 ∧ cx_lo Γ = 124) (hin : (cx_meth Γ).name = yX7_take.name) : ∀ (a0 : Nat) (x1 : Int32) (x3 : Int32) (s0 : AS), OK Γ 97 [(0, .ref a0), (1, .int x1), (3, .int x3)] [] (fX7_take_97  a0 x1 x3 s0) s0 := by
  intro a0 x1 x3 s0
  unfold fX7_take_97
  refine ok_aload_n C 0 dX7_take_97 rfl ?_
  refine ok_iload_n C 1 dX7_take_98 rfl ?_
  refine ok_iconst C (v := 1) dX7_take_99 (by decide) ?_
  refine ok_aload_n C 0 dX7_take_100 rfl ?_
  refine ok_iload_n C 1 dX7_take_101 rfl ?_
  refine ok_iconst C (v := 1) dX7_take_102 (by decide) ?_
  refine ok_callV C T [.int x1, .int 1] (F := fX7_of a0 x1 1) (ctX7_of (C.2.2.2.2.2.2.2.2.1) a0 x1 1) vlX7_189 viX7_of rfl rfl (by decide) rfl (by rw [hR.1, hR.2]; decide) (Nat.le_of_ble_eq_true rfl) dX7_take_103 (ok_qI fun v1 s2 => ?_)
  refine ok_iconst C (v := 1) dX7_take_106 (by decide) ?_
  refine ok_isub C dX7_take_107 ?_
  refine ok_callV C T [.int x1, .int 1, .int (v1 - 1)] (F := fX7_puts a0 x1 1 (v1 - 1)) (ctX7_puts (C.2.2.2.2.2.2.2.2.1) a0 x1 1 (v1 - 1)) vlX7_178 viX7_puts rfl rfl (by decide) rfl (by rw [hR.1, hR.2]; decide) (Nat.le_of_ble_eq_true rfl) dX7_take_108 (ok_qV fun s3 => ?_)
  refine ok_aload_n C 0 dX7_take_111 rfl ?_
  refine ok_getR C frX7_17_11 dX7_take_112 (fun q4 => ?_)
  refine ok_bipush C (v := 6) dX7_take_115 (by decide) ?_
  refine ok_iload_n C 2 dX7_take_117 rfl ?_
  refine ok_iadd C dX7_take_118 ?_
  refine ok_dup2 C dX7_take_119 rfl rfl ?_
  refine ok_iald C dX7_take_120 (fun v5 => ?_)
  refine ok_iconst C (v := 1) dX7_take_121 (by decide) ?_
  refine ok_iadd C dX7_take_122 ?_
  refine ok_iast C dX7_take_123 (fun s6 _ => ?_)
  refine ok_iload_n C 2 dX7_take_124 rfl ?_
  exact ok_ireturn C dX7_take_125
set_option maxHeartbeats 4000000 in
theorem oX7_take_56 {Γ : CX} (C : OKC Γ cX7_take RX7 (some (.int))) (T : ∀ z ∈ (cx_c Γ).exceptionTable.toList, False) (hn : cx_nL Γ = 5) (hR : cx_fr Γ = 4 ∧ cx_lo Γ = 124) (hin : (cx_meth Γ).name = yX7_take.name) : ∀ (n : Nat) (a0 : Nat) (x1 : Int32) (x3 : Int32) (x4 : Int32) (s0 : AS), OK Γ 56 [(0, .ref a0), (1, .int x1), (3, .int x3), (4, .int x4)] [] (fX7_take_56 n a0 x1 x3 x4 s0) s0 := by
  intro n
  induction n with
  | zero => intro _ _ _ _ s0; exact OK.none
  | succ n ih =>
    intro a0 x1 x3 x4 s0
    rw [fX7_take_56]
    refine ok_iload C 3 dX7_take_56 rfl ?_
    refine ok_aload_n C 0 dX7_take_58 rfl ?_
    refine ok_iload_n C 1 dX7_take_59 rfl ?_
    refine ok_iconst C (v := 1) dX7_take_60 (by decide) ?_
    refine ok_callV C T [.int x1, .int 1] (F := fX7_of a0 x1 1) (ctX7_of (C.2.2.2.2.2.2.2.2.1) a0 x1 1) vlX7_189 viX7_of rfl rfl (by decide) rfl (by rw [hR.1, hR.2]; decide) (Nat.le_of_ble_eq_true rfl) dX7_take_61 (ok_qI fun v1 s2 => ?_)
    refine ok_iconst C (v := 1) dX7_take_64 (by decide) ?_
    refine ok_isub C dX7_take_65 ?_
    refine ok_icmp_ge C 97 dX7_take_66 (by decide) ?_ ?_
    · refine OK.sub (lv' := [(0, .ref a0), (1, .int x1), (3, .int x3)]) [0, 1, 2] rfl ?_
      exact oX7_take_97 C T hn hR hin a0 x1 x3 s2
    · refine ok_aload_n C 0 dX7_take_69 rfl ?_
      refine ok_iload_n C 1 dX7_take_70 rfl ?_
      refine ok_bipush C (v := 11) dX7_take_71 (by decide) ?_
      refine ok_iload C 3 dX7_take_73 rfl ?_
      refine ok_iadd C dX7_take_75 ?_
      refine ok_aload_n C 0 dX7_take_76 rfl ?_
      refine ok_iload_n C 1 dX7_take_77 rfl ?_
      refine ok_bipush C (v := 11) dX7_take_78 (by decide) ?_
      refine ok_iload C 3 dX7_take_80 rfl ?_
      refine ok_iadd C dX7_take_82 ?_
      refine ok_iconst C (v := 1) dX7_take_83 (by decide) ?_
      refine ok_iadd C dX7_take_84 ?_
      refine ok_callV C T [.int x1, .int ((11 + x4) + 1)] (F := fX7_of a0 x1 ((11 + x4) + 1)) (ctX7_of (C.2.2.2.2.2.2.2.2.1) a0 x1 ((11 + x4) + 1)) vlX7_189 viX7_of rfl rfl (by decide) rfl (by rw [hR.1, hR.2]; decide) (Nat.le_of_ble_eq_true rfl) dX7_take_85 (ok_qI fun v3 s4 => ?_)
      refine ok_callV C T [.int x1, .int (11 + x4), .int v3] (F := fX7_puts a0 x1 (11 + x4) v3) (ctX7_puts (C.2.2.2.2.2.2.2.2.1) a0 x1 (11 + x4) v3) vlX7_178 viX7_puts rfl rfl (by decide) rfl (by rw [hR.1, hR.2]; decide) (Nat.le_of_ble_eq_true rfl) dX7_take_88 (ok_qV fun s5 => ?_)
      refine ok_iincL C 3 (c := 1) (fun v6 => [(4, .int v6), (0, .ref a0), (1, .int x1), (3, .int x3)]) dX7_take_91 rfl rfl (by rw [hn]; decide) (fun _ => rfl) (fun v6 => ?_)
      refine ok_goto C 56 dX7_take_94 (by decide) ?_
      refine OK.sub (lv' := [(0, .ref a0), (1, .int x1), (3, .int x3), (4, .int v6)]) [1, 2, 3, 0] rfl ?_
      exact ih a0 x1 x3 v6 s5
set_option maxHeartbeats 4000000 in
theorem oX7_take_30 {Γ : CX} (C : OKC Γ cX7_take RX7 (some (.int))) (T : ∀ z ∈ (cx_c Γ).exceptionTable.toList, False) (hn : cx_nL Γ = 5) (hR : cx_fr Γ = 4 ∧ cx_lo Γ = 124) (hin : (cx_meth Γ).name = yX7_take.name) : ∀ (a0 : Nat) (x1 : Int32) (x2 : Int32) (t0 : Nat) (t1 : Int32) (s0 : AS), OK Γ 30 [(0, .ref a0), (1, .int x1), (2, .int x2)] [.int t1, .ref t0] (fX7_take_30  a0 x1 x2 t0 t1 s0) s0 := by
  intro a0 x1 x2 t0 t1 s0
  unfold fX7_take_30
  refine ok_iconst C (v := 2) dX7_take_30 (by decide) ?_
  refine ok_callV C T [.int t1, .int 2] (F := fX7_refuse t0 t1 2) (ctX7_refuse (C.2.2.2.2.2.2.2.2.1) t0 t1 2) vlX7_74 viX7_refuse rfl rfl (by decide) rfl (by rw [hR.1, hR.2]; decide) (Nat.le_of_ble_eq_true rfl) dX7_take_31 (ok_qI fun v1 s2 => ?_)
  refine ok_if_eq C 39 dX7_take_34 (by decide) ?_ ?_
  · refine ok_aload_n C 0 dX7_take_39 rfl ?_
    refine ok_callV C T [] (F := fX7_keepsAll a0) (ctX7_keepsAll (C.2.2.2.2.2.2.2.2.1) a0) vlX7_392 viX7_keepsAll rfl rfl (by decide) rfl (by rw [hR.1, hR.2]; decide) (Nat.le_of_ble_eq_true rfl) dX7_take_40 (ok_qV fun s3 => ?_)
    refine ok_aload_n C 0 dX7_take_43 rfl ?_
    refine ok_iload_n C 1 dX7_take_44 rfl ?_
    refine ok_bipush C (v := 11) dX7_take_45 (by decide) ?_
    refine ok_iload_n C 2 dX7_take_47 rfl ?_
    refine ok_iadd C dX7_take_48 ?_
    refine ok_callV C T [.int x1, .int (11 + x2)] (F := fX7_of a0 x1 (11 + x2)) (ctX7_of (C.2.2.2.2.2.2.2.2.1) a0 x1 (11 + x2)) vlX7_189 viX7_of rfl rfl (by decide) rfl (by rw [hR.1, hR.2]; decide) (Nat.le_of_ble_eq_true rfl) dX7_take_49 (ok_qI fun v4 s5 => ?_)
    refine ok_istore_n C (i := 3) [(3, .int v4), (0, .ref a0), (1, .int x1), (2, .int x2)] dX7_take_52 rfl (by rw [hn]; decide) rfl ?_
    refine ok_iload_n C 3 dX7_take_53 rfl ?_
    refine ok_istore C (i := 4) [(4, .int x2), (3, .int v4), (0, .ref a0), (1, .int x1), (2, .int x2)] dX7_take_54 (by rw [hn]; decide) rfl ?_
    refine OK.sub (lv' := [(0, .ref a0), (1, .int x1), (3, .int v4), (4, .int x2)]) [2, 3, 1, 0] rfl ?_
    exact oX7_take_56 C T hn hR hin FU a0 x1 v4 x2 s5
  · refine ok_iconst C (v := 0) dX7_take_37 (by decide) ?_
    exact ok_ireturn C dX7_take_38
set_option maxHeartbeats 4000000 in
theorem oX7_take {Γ : CX} (C : OKC Γ cX7_take RX7 (some (.int))) (T : ∀ z ∈ (cx_c Γ).exceptionTable.toList, False) (hn : cx_nL Γ = 5) (hR : cx_fr Γ = 4 ∧ cx_lo Γ = 124) (hin : (cx_meth Γ).name = yX7_take.name) : ∀ (a0 : Nat) (x1 : Int32) (x2 : Int32) (s0 : AS), OK Γ 0 [(0, .ref a0), (1, .int x1), (2, .int x2)] [] (fX7_take a0 x1 x2 s0) s0 := by
  intro a0 x1 x2 s0
  unfold fX7_take
  refine ok_aload_n C 0 dX7_take_0 rfl ?_
  refine ok_iload_n C 1 dX7_take_1 rfl ?_
  refine ok_callV C T [.int x1] (F := fX7_noRow a0 x1) (ctX7_noRow (C.2.2.2.2.2.2.2.2.1) a0 x1) vlX7_335 viX7_noRow rfl rfl (by decide) rfl (by rw [hR.1, hR.2]; decide) (Nat.le_of_ble_eq_true rfl) dX7_take_2 (ok_qI fun v1 s2 => ?_)
  refine ok_if_ne C 37 dX7_take_5 (by decide) ?_ ?_
  · refine ok_iconst C (v := 0) dX7_take_37 (by decide) ?_
    exact ok_ireturn C dX7_take_38
  · refine ok_aload_n C 0 dX7_take_8 rfl ?_
    refine ok_iload_n C 2 dX7_take_9 rfl ?_
    refine ok_iconst C (v := 0) dX7_take_10 (by decide) ?_
    refine ok_aload_n C 0 dX7_take_11 rfl ?_
    refine ok_iload_n C 1 dX7_take_12 rfl ?_
    refine ok_iconst C (v := 1) dX7_take_13 (by decide) ?_
    refine ok_callV C T [.int x1, .int 1] (F := fX7_of a0 x1 1) (ctX7_of (C.2.2.2.2.2.2.2.2.1) a0 x1 1) vlX7_189 viX7_of rfl rfl (by decide) rfl (by rw [hR.1, hR.2]; decide) (Nat.le_of_ble_eq_true rfl) dX7_take_14 (ok_qI fun v3 s4 => ?_)
    refine ok_iconst C (v := 1) dX7_take_17 (by decide) ?_
    refine ok_isub C dX7_take_18 ?_
    refine ok_callS C T [.int x2, .int 0, .int (v3 - 1)] (F := fX7_in x2 0 (v3 - 1)) (ctX7_in (C.2.2.2.2.2.2.2.2.1) x2 0 (v3 - 1)) vlX7_143 kw_793 rfl (by rw [hR.1, hR.2]; decide) (Nat.le_of_ble_eq_true rfl) dX7_take_19 (ok_qI fun v5 s6 => ?_)
    refine ok_if_ne C 29 dX7_take_22 (by decide) ?_ ?_
    · refine ok_iconst C (v := 0) dX7_take_29 (by decide) ?_
      exact oX7_take_30 C T hn hR hin a0 x1 x2 a0 0 s6
    · refine ok_iconst C (v := 1) dX7_take_25 (by decide) ?_
      refine ok_goto C 30 dX7_take_26 (by decide) ?_
      exact oX7_take_30 C T hn hR hin a0 x1 x2 a0 1 s6
theorem ctX7_take {l : Launch} (hl : l.stackTraces = false) {D : va_G} {dA : Nat → ClassId} {B0 : Nat} (a0 : Nat) (x1 : Int32) (x2 : Int32) : Ct l D dA B0 yX7_take (.code yX7_take cX7_take 5 (some (.int)) :: ax_ALL) 4 124 [.ref a0, .int x1, .int x2] (fX7_take a0 x1 x2) :=
  Ct.of hl (by decide +kernel) (Nat.le_of_ble_eq_true rfl) fun Γ C _ _ _ _ e5 e6 e7 T hin => oX7_take C T e5 ⟨e6, e7⟩ hin a0 x1 x2 _
/-! ChaseLockerModel.quoin(IZ)I -/
def fX7_quoin_90  (a0 : Nat) (x1 : Int32) (s0 : AS) : Option AR :=
  cV s0 a0 11 (fX7_gap a0 x1 s0) (qI (fun v1 s2 =>
  some (.inl (some (.int v1)), s2)))
def fX7_quoin_48  (a0 : Nat) (x1 : Int32) (x2 : Int32) (t0 : Nat) (t1 : Int32) (s0 : AS) : Option AR :=
  cV s0 t0 11 (fX7_refuse t0 t1 3 s0) (qI (fun v1 s2 =>
  if v1 = 0 then (
    cV s2 a0 11 (fX7_keepsAll a0 s2) (qV (fun s3 =>
    if x2 = 0 then (
      cV s3 a0 11 (fX7_takesQuoin a0 x1 s3) (qV (fun s4 =>
      fX7_quoin_90 a0 x1 s4)))
    else (
      cV s3 a0 11 (fX7_puts a0 x1 2 0 s3) (qV (fun s5 =>
      gR s5 a0 11 12 (fun q6 =>
      aI s5 q6 100 0 (fun v7 =>
      uI s5 q6 0 (v7 - 1) (fun s8 =>
      fX7_quoin_90 a0 x1 s8)))))))))
  else (
    some (.inl (some (.int 0)), s2))))
def fX7_quoin_43  (a0 : Nat) (x1 : Int32) (x2 : Int32) (t0 : Nat) (s0 : AS) : Option AR :=
  fX7_quoin_48 a0 x1 x2 t0 1 s0
def fX7_quoin_47  (a0 : Nat) (x1 : Int32) (x2 : Int32) (t0 : Nat) (s0 : AS) : Option AR :=
  fX7_quoin_48 a0 x1 x2 t0 0 s0
def fX7_quoin (a0 : Nat) (x1 : Int32) (x2 : Int32) (s0 : AS) : Option AR :=
  cV s0 a0 11 (fX7_noRow a0 x1 s0) (qI (fun v1 s2 =>
  if v1 = 0 then (
    cV s2 a0 11 (fX7_hasQuoin a0 x1 s2) (qI (fun v3 s4 =>
    if v3 = x2 then (
      fX7_quoin_43 a0 x1 x2 a0 s4)
    else (
      if x2 = 0 then (
        fX7_quoin_47 a0 x1 x2 a0 s4)
      else (
        gR s4 a0 11 12 (fun q5 =>
        aI s4 q5 100 0 (fun v6 =>
        if v6 = 0 then (
          fX7_quoin_43 a0 x1 x2 a0 s4)
        else (
          cV s4 a0 11 (fX7_gap a0 x1 s4) (qI (fun v7 s8 =>
          gI s8 a0 11 4 (fun v9 =>
          if v9 ≤ v7 then (
            fX7_quoin_47 a0 x1 x2 a0 s8)
          else (
            fX7_quoin_43 a0 x1 x2 a0 s8))))))))))))
  else (
    some (.inl (some (.int 0)), s2))))
set_option maxHeartbeats 4000000 in
theorem oX7_quoin_90 {Γ : CX} (C : OKC Γ cX7_quoin RX7 (some (.int))) (T : ∀ z ∈ (cx_c Γ).exceptionTable.toList, False) (hn : cx_nL Γ = 3) (hR : cx_fr Γ = 6 ∧ cx_lo Γ = 168) (hin : (cx_meth Γ).name = yX7_quoin.name) : ∀ (a0 : Nat) (x1 : Int32) (s0 : AS), OK Γ 90 [(0, .ref a0), (1, .int x1)] [] (fX7_quoin_90  a0 x1 s0) s0 := by
  intro a0 x1 s0
  unfold fX7_quoin_90
  refine ok_aload_n C 0 dX7_quoin_90 rfl ?_
  refine ok_iload_n C 1 dX7_quoin_91 rfl ?_
  refine ok_callV C T [.int x1] (F := fX7_gap a0 x1) (ctX7_gap (C.2.2.2.2.2.2.2.2.1) a0 x1) vlX7_192 viX7_gap rfl rfl (by decide) rfl (by rw [hR.1, hR.2]; decide) (Nat.le_of_ble_eq_true rfl) dX7_quoin_92 (ok_qI fun v1 s2 => ?_)
  exact ok_ireturn C dX7_quoin_95
set_option maxHeartbeats 4000000 in
theorem oX7_quoin_48 {Γ : CX} (C : OKC Γ cX7_quoin RX7 (some (.int))) (T : ∀ z ∈ (cx_c Γ).exceptionTable.toList, False) (hn : cx_nL Γ = 3) (hR : cx_fr Γ = 6 ∧ cx_lo Γ = 168) (hin : (cx_meth Γ).name = yX7_quoin.name) : ∀ (a0 : Nat) (x1 : Int32) (x2 : Int32) (t0 : Nat) (t1 : Int32) (s0 : AS), OK Γ 48 [(0, .ref a0), (1, .int x1), (2, .int x2)] [.int t1, .ref t0] (fX7_quoin_48  a0 x1 x2 t0 t1 s0) s0 := by
  intro a0 x1 x2 t0 t1 s0
  unfold fX7_quoin_48
  refine ok_iconst C (v := 3) dX7_quoin_48 (by decide) ?_
  refine ok_callV C T [.int t1, .int 3] (F := fX7_refuse t0 t1 3) (ctX7_refuse (C.2.2.2.2.2.2.2.2.1) t0 t1 3) vlX7_74 viX7_refuse rfl rfl (by decide) rfl (by rw [hR.1, hR.2]; decide) (Nat.le_of_ble_eq_true rfl) dX7_quoin_49 (ok_qI fun v1 s2 => ?_)
  refine ok_if_eq C 57 dX7_quoin_52 (by decide) ?_ ?_
  · refine ok_aload_n C 0 dX7_quoin_57 rfl ?_
    refine ok_callV C T [] (F := fX7_keepsAll a0) (ctX7_keepsAll (C.2.2.2.2.2.2.2.2.1) a0) vlX7_392 viX7_keepsAll rfl rfl (by decide) rfl (by rw [hR.1, hR.2]; decide) (Nat.le_of_ble_eq_true rfl) dX7_quoin_58 (ok_qV fun s3 => ?_)
    refine ok_iload_n C 2 dX7_quoin_61 rfl ?_
    refine ok_if_eq C 85 dX7_quoin_62 (by decide) ?_ ?_
    · refine ok_aload_n C 0 dX7_quoin_85 rfl ?_
      refine ok_iload_n C 1 dX7_quoin_86 rfl ?_
      refine ok_callV C T [.int x1] (F := fX7_takesQuoin a0 x1) (ctX7_takesQuoin (C.2.2.2.2.2.2.2.2.1) a0 x1) vlX7_254 viX7_takesQuoin rfl rfl (by decide) rfl (by rw [hR.1, hR.2]; decide) (Nat.le_of_ble_eq_true rfl) dX7_quoin_87 (ok_qV fun s4 => ?_)
      refine OK.sub (lv' := [(0, .ref a0), (1, .int x1)]) [0, 1] rfl ?_
      exact oX7_quoin_90 C T hn hR hin a0 x1 s4
    · refine ok_aload_n C 0 dX7_quoin_65 rfl ?_
      refine ok_iload_n C 1 dX7_quoin_66 rfl ?_
      refine ok_iconst C (v := 2) dX7_quoin_67 (by decide) ?_
      refine ok_iconst C (v := 0) dX7_quoin_68 (by decide) ?_
      refine ok_callV C T [.int x1, .int 2, .int 0] (F := fX7_puts a0 x1 2 0) (ctX7_puts (C.2.2.2.2.2.2.2.2.1) a0 x1 2 0) vlX7_178 viX7_puts rfl rfl (by decide) rfl (by rw [hR.1, hR.2]; decide) (Nat.le_of_ble_eq_true rfl) dX7_quoin_69 (ok_qV fun s5 => ?_)
      refine ok_aload_n C 0 dX7_quoin_72 rfl ?_
      refine ok_getR C frX7_17_11 dX7_quoin_73 (fun q6 => ?_)
      refine ok_iconst C (v := 0) dX7_quoin_76 (by decide) ?_
      refine ok_dup2 C dX7_quoin_77 rfl rfl ?_
      refine ok_iald C dX7_quoin_78 (fun v7 => ?_)
      refine ok_iconst C (v := 1) dX7_quoin_79 (by decide) ?_
      refine ok_isub C dX7_quoin_80 ?_
      refine ok_iast C dX7_quoin_81 (fun s8 _ => ?_)
      refine ok_goto C 90 dX7_quoin_82 (by decide) ?_
      refine OK.sub (lv' := [(0, .ref a0), (1, .int x1)]) [0, 1] rfl ?_
      exact oX7_quoin_90 C T hn hR hin a0 x1 s8
  · refine ok_iconst C (v := 0) dX7_quoin_55 (by decide) ?_
    exact ok_ireturn C dX7_quoin_56
set_option maxHeartbeats 4000000 in
theorem oX7_quoin_43 {Γ : CX} (C : OKC Γ cX7_quoin RX7 (some (.int))) (T : ∀ z ∈ (cx_c Γ).exceptionTable.toList, False) (hn : cx_nL Γ = 3) (hR : cx_fr Γ = 6 ∧ cx_lo Γ = 168) (hin : (cx_meth Γ).name = yX7_quoin.name) : ∀ (a0 : Nat) (x1 : Int32) (x2 : Int32) (t0 : Nat) (s0 : AS), OK Γ 43 [(0, .ref a0), (1, .int x1), (2, .int x2)] [.ref t0] (fX7_quoin_43  a0 x1 x2 t0 s0) s0 := by
  intro a0 x1 x2 t0 s0
  unfold fX7_quoin_43
  refine ok_iconst C (v := 1) dX7_quoin_43 (by decide) ?_
  refine ok_goto C 48 dX7_quoin_44 (by decide) ?_
  exact oX7_quoin_48 C T hn hR hin a0 x1 x2 t0 1 s0
set_option maxHeartbeats 4000000 in
theorem oX7_quoin_47 {Γ : CX} (C : OKC Γ cX7_quoin RX7 (some (.int))) (T : ∀ z ∈ (cx_c Γ).exceptionTable.toList, False) (hn : cx_nL Γ = 3) (hR : cx_fr Γ = 6 ∧ cx_lo Γ = 168) (hin : (cx_meth Γ).name = yX7_quoin.name) : ∀ (a0 : Nat) (x1 : Int32) (x2 : Int32) (t0 : Nat) (s0 : AS), OK Γ 47 [(0, .ref a0), (1, .int x1), (2, .int x2)] [.ref t0] (fX7_quoin_47  a0 x1 x2 t0 s0) s0 := by
  intro a0 x1 x2 t0 s0
  unfold fX7_quoin_47
  refine ok_iconst C (v := 0) dX7_quoin_47 (by decide) ?_
  exact oX7_quoin_48 C T hn hR hin a0 x1 x2 t0 0 s0
set_option maxHeartbeats 4000000 in
theorem oX7_quoin {Γ : CX} (C : OKC Γ cX7_quoin RX7 (some (.int))) (T : ∀ z ∈ (cx_c Γ).exceptionTable.toList, False) (hn : cx_nL Γ = 3) (hR : cx_fr Γ = 6 ∧ cx_lo Γ = 168) (hin : (cx_meth Γ).name = yX7_quoin.name) : ∀ (a0 : Nat) (x1 : Int32) (x2 : Int32) (s0 : AS), OK Γ 0 [(0, .ref a0), (1, .int x1), (2, .int x2)] [] (fX7_quoin a0 x1 x2 s0) s0 := by
  intro a0 x1 x2 s0
  unfold fX7_quoin
  refine ok_aload_n C 0 dX7_quoin_0 rfl ?_
  refine ok_iload_n C 1 dX7_quoin_1 rfl ?_
  refine ok_callV C T [.int x1] (F := fX7_noRow a0 x1) (ctX7_noRow (C.2.2.2.2.2.2.2.2.1) a0 x1) vlX7_335 viX7_noRow rfl rfl (by decide) rfl (by rw [hR.1, hR.2]; decide) (Nat.le_of_ble_eq_true rfl) dX7_quoin_2 (ok_qI fun v1 s2 => ?_)
  refine ok_if_ne C 55 dX7_quoin_5 (by decide) ?_ ?_
  · refine ok_iconst C (v := 0) dX7_quoin_55 (by decide) ?_
    exact ok_ireturn C dX7_quoin_56
  · refine ok_aload_n C 0 dX7_quoin_8 rfl ?_
    refine ok_aload_n C 0 dX7_quoin_9 rfl ?_
    refine ok_iload_n C 1 dX7_quoin_10 rfl ?_
    refine ok_callV C T [.int x1] (F := fX7_hasQuoin a0 x1) (ctX7_hasQuoin (C.2.2.2.2.2.2.2.2.1) a0 x1) vlX7_238 viX7_hasQuoin rfl rfl (by decide) rfl (by rw [hR.1, hR.2]; decide) (Nat.le_of_ble_eq_true rfl) dX7_quoin_11 (ok_qI fun v3 s4 => ?_)
    refine ok_iload_n C 2 dX7_quoin_14 rfl ?_
    refine ok_icmp_eq C 43 dX7_quoin_15 (by decide) ?_ ?_
    · exact oX7_quoin_43 C T hn hR hin a0 x1 x2 a0 s4
    · refine ok_iload_n C 2 dX7_quoin_18 rfl ?_
      refine ok_if_eq C 47 dX7_quoin_19 (by decide) ?_ ?_
      · exact oX7_quoin_47 C T hn hR hin a0 x1 x2 a0 s4
      · refine ok_aload_n C 0 dX7_quoin_22 rfl ?_
        refine ok_getR C frX7_17_11 dX7_quoin_23 (fun q5 => ?_)
        refine ok_iconst C (v := 0) dX7_quoin_26 (by decide) ?_
        refine ok_iald C dX7_quoin_27 (fun v6 => ?_)
        refine ok_if_eq C 43 dX7_quoin_28 (by decide) ?_ ?_
        · exact oX7_quoin_43 C T hn hR hin a0 x1 x2 a0 s4
        · refine ok_aload_n C 0 dX7_quoin_31 rfl ?_
          refine ok_iload_n C 1 dX7_quoin_32 rfl ?_
          refine ok_callV C T [.int x1] (F := fX7_gap a0 x1) (ctX7_gap (C.2.2.2.2.2.2.2.2.1) a0 x1) vlX7_192 viX7_gap rfl rfl (by decide) rfl (by rw [hR.1, hR.2]; decide) (Nat.le_of_ble_eq_true rfl) dX7_quoin_33 (ok_qI fun v7 s8 => ?_)
          refine ok_aload_n C 0 dX7_quoin_36 rfl ?_
          refine ok_getI C frX7_157_11 dX7_quoin_37 (fun v9 => ?_)
          refine ok_icmp_ge C 47 dX7_quoin_40 (by decide) ?_ ?_
          · exact oX7_quoin_47 C T hn hR hin a0 x1 x2 a0 s8
          · exact oX7_quoin_43 C T hn hR hin a0 x1 x2 a0 s8
theorem ctX7_quoin {l : Launch} (hl : l.stackTraces = false) {D : va_G} {dA : Nat → ClassId} {B0 : Nat} (a0 : Nat) (x1 : Int32) (x2 : Int32) : Ct l D dA B0 yX7_quoin (.code yX7_quoin cX7_quoin 3 (some (.int)) :: ax_ALL) 6 168 [.ref a0, .int x1, .int x2] (fX7_quoin a0 x1 x2) :=
  Ct.of hl (by decide +kernel) (Nat.le_of_ble_eq_true rfl) fun Γ C _ _ _ _ e5 e6 e7 T hin => oX7_quoin C T e5 ⟨e6, e7⟩ hin a0 x1 x2 _
/-! ChaseLockerModel.open(II)I -/
def fX7_open_43  (a0 : Nat) (x1 : Int32) (x2 : Int32) (t0 : Nat) (t1 : Int32) (s0 : AS) : Option AR :=
  cV s0 t0 11 (fX7_refuse t0 t1 3 s0) (qI (fun v1 s2 =>
  if v1 = 0 then (
    cV s2 a0 11 (fX7_keepsAll a0 s2) (qV (fun s3 =>
    cV s3 a0 11 (fX7_puts a0 x1 2 x2 s3) (qV (fun s4 =>
    cV s4 a0 11 (fX7_puts a0 x1 3 0 s4) (qV (fun s5 =>
    cV s5 a0 11 (fX7_gap a0 x1 s5) (qI (fun v6 s7 =>
    some (.inl (some (.int v6)), s7))))))))))
  else (
    some (.inl (some (.int 0)), s2))))
def fX7_open_38  (a0 : Nat) (x1 : Int32) (x2 : Int32) (t0 : Nat) (s0 : AS) : Option AR :=
  fX7_open_43 a0 x1 x2 t0 1 s0
def fX7_open (a0 : Nat) (x1 : Int32) (x2 : Int32) (s0 : AS) : Option AR :=
  cV s0 a0 11 (fX7_noRow a0 x1 s0) (qI (fun v1 s2 =>
  if v1 = 0 then (
    cV s2 a0 11 (fX7_hasQuoin a0 x1 s2) (qI (fun v3 s4 =>
    if v3 = 0 then (
      fX7_open_38 a0 x1 x2 a0 s4)
    else (
      gI s4 a0 11 5 (fun v5 =>
      cS s4 (fX7_in x2 0 v5 s4) (qI (fun v6 s7 =>
      if v6 = 0 then (
        fX7_open_38 a0 x1 x2 a0 s7)
      else (
        cV s7 a0 11 (fX7_sumFor a0 x1 x2 s7) (qI (fun v8 s9 =>
        if 0 ≤ v8 then (
          fX7_open_43 a0 x1 x2 a0 0 s9)
        else (
          fX7_open_38 a0 x1 x2 a0 s9)))))))))))
  else (
    some (.inl (some (.int 0)), s2))))
set_option maxHeartbeats 4000000 in
theorem oX7_open_43 {Γ : CX} (C : OKC Γ cX7_open RX7 (some (.int))) (T : ∀ z ∈ (cx_c Γ).exceptionTable.toList, False) (hn : cx_nL Γ = 3) (hR : cx_fr Γ = 8 ∧ cx_lo Γ = 211) (hin : (cx_meth Γ).name = yX7_open.name) : ∀ (a0 : Nat) (x1 : Int32) (x2 : Int32) (t0 : Nat) (t1 : Int32) (s0 : AS), OK Γ 43 [(0, .ref a0), (1, .int x1), (2, .int x2)] [.int t1, .ref t0] (fX7_open_43  a0 x1 x2 t0 t1 s0) s0 := by
  intro a0 x1 x2 t0 t1 s0
  unfold fX7_open_43
  refine ok_iconst C (v := 3) dX7_open_43 (by decide) ?_
  refine ok_callV C T [.int t1, .int 3] (F := fX7_refuse t0 t1 3) (ctX7_refuse (C.2.2.2.2.2.2.2.2.1) t0 t1 3) vlX7_74 viX7_refuse rfl rfl (by decide) rfl (by rw [hR.1, hR.2]; decide) (Nat.le_of_ble_eq_true rfl) dX7_open_44 (ok_qI fun v1 s2 => ?_)
  refine ok_if_eq C 52 dX7_open_47 (by decide) ?_ ?_
  · refine ok_aload_n C 0 dX7_open_52 rfl ?_
    refine ok_callV C T [] (F := fX7_keepsAll a0) (ctX7_keepsAll (C.2.2.2.2.2.2.2.2.1) a0) vlX7_392 viX7_keepsAll rfl rfl (by decide) rfl (by rw [hR.1, hR.2]; decide) (Nat.le_of_ble_eq_true rfl) dX7_open_53 (ok_qV fun s3 => ?_)
    refine ok_aload_n C 0 dX7_open_56 rfl ?_
    refine ok_iload_n C 1 dX7_open_57 rfl ?_
    refine ok_iconst C (v := 2) dX7_open_58 (by decide) ?_
    refine ok_iload_n C 2 dX7_open_59 rfl ?_
    refine ok_callV C T [.int x1, .int 2, .int x2] (F := fX7_puts a0 x1 2 x2) (ctX7_puts (C.2.2.2.2.2.2.2.2.1) a0 x1 2 x2) vlX7_178 viX7_puts rfl rfl (by decide) rfl (by rw [hR.1, hR.2]; decide) (Nat.le_of_ble_eq_true rfl) dX7_open_60 (ok_qV fun s4 => ?_)
    refine ok_aload_n C 0 dX7_open_63 rfl ?_
    refine ok_iload_n C 1 dX7_open_64 rfl ?_
    refine ok_iconst C (v := 3) dX7_open_65 (by decide) ?_
    refine ok_iconst C (v := 0) dX7_open_66 (by decide) ?_
    refine ok_callV C T [.int x1, .int 3, .int 0] (F := fX7_puts a0 x1 3 0) (ctX7_puts (C.2.2.2.2.2.2.2.2.1) a0 x1 3 0) vlX7_178 viX7_puts rfl rfl (by decide) rfl (by rw [hR.1, hR.2]; decide) (Nat.le_of_ble_eq_true rfl) dX7_open_67 (ok_qV fun s5 => ?_)
    refine ok_aload_n C 0 dX7_open_70 rfl ?_
    refine ok_iload_n C 1 dX7_open_71 rfl ?_
    refine ok_callV C T [.int x1] (F := fX7_gap a0 x1) (ctX7_gap (C.2.2.2.2.2.2.2.2.1) a0 x1) vlX7_192 viX7_gap rfl rfl (by decide) rfl (by rw [hR.1, hR.2]; decide) (Nat.le_of_ble_eq_true rfl) dX7_open_72 (ok_qI fun v6 s7 => ?_)
    exact ok_ireturn C dX7_open_75
  · refine ok_iconst C (v := 0) dX7_open_50 (by decide) ?_
    exact ok_ireturn C dX7_open_51
set_option maxHeartbeats 4000000 in
theorem oX7_open_38 {Γ : CX} (C : OKC Γ cX7_open RX7 (some (.int))) (T : ∀ z ∈ (cx_c Γ).exceptionTable.toList, False) (hn : cx_nL Γ = 3) (hR : cx_fr Γ = 8 ∧ cx_lo Γ = 211) (hin : (cx_meth Γ).name = yX7_open.name) : ∀ (a0 : Nat) (x1 : Int32) (x2 : Int32) (t0 : Nat) (s0 : AS), OK Γ 38 [(0, .ref a0), (1, .int x1), (2, .int x2)] [.ref t0] (fX7_open_38  a0 x1 x2 t0 s0) s0 := by
  intro a0 x1 x2 t0 s0
  unfold fX7_open_38
  refine ok_iconst C (v := 1) dX7_open_38 (by decide) ?_
  refine ok_goto C 43 dX7_open_39 (by decide) ?_
  exact oX7_open_43 C T hn hR hin a0 x1 x2 t0 1 s0
set_option maxHeartbeats 4000000 in
theorem oX7_open {Γ : CX} (C : OKC Γ cX7_open RX7 (some (.int))) (T : ∀ z ∈ (cx_c Γ).exceptionTable.toList, False) (hn : cx_nL Γ = 3) (hR : cx_fr Γ = 8 ∧ cx_lo Γ = 211) (hin : (cx_meth Γ).name = yX7_open.name) : ∀ (a0 : Nat) (x1 : Int32) (x2 : Int32) (s0 : AS), OK Γ 0 [(0, .ref a0), (1, .int x1), (2, .int x2)] [] (fX7_open a0 x1 x2 s0) s0 := by
  intro a0 x1 x2 s0
  unfold fX7_open
  refine ok_aload_n C 0 dX7_open_0 rfl ?_
  refine ok_iload_n C 1 dX7_open_1 rfl ?_
  refine ok_callV C T [.int x1] (F := fX7_noRow a0 x1) (ctX7_noRow (C.2.2.2.2.2.2.2.2.1) a0 x1) vlX7_335 viX7_noRow rfl rfl (by decide) rfl (by rw [hR.1, hR.2]; decide) (Nat.le_of_ble_eq_true rfl) dX7_open_2 (ok_qI fun v1 s2 => ?_)
  refine ok_if_ne C 50 dX7_open_5 (by decide) ?_ ?_
  · refine ok_iconst C (v := 0) dX7_open_50 (by decide) ?_
    exact ok_ireturn C dX7_open_51
  · refine ok_aload_n C 0 dX7_open_8 rfl ?_
    refine ok_aload_n C 0 dX7_open_9 rfl ?_
    refine ok_iload_n C 1 dX7_open_10 rfl ?_
    refine ok_callV C T [.int x1] (F := fX7_hasQuoin a0 x1) (ctX7_hasQuoin (C.2.2.2.2.2.2.2.2.1) a0 x1) vlX7_238 viX7_hasQuoin rfl rfl (by decide) rfl (by rw [hR.1, hR.2]; decide) (Nat.le_of_ble_eq_true rfl) dX7_open_11 (ok_qI fun v3 s4 => ?_)
    refine ok_if_eq C 38 dX7_open_14 (by decide) ?_ ?_
    · exact oX7_open_38 C T hn hR hin a0 x1 x2 a0 s4
    · refine ok_iload_n C 2 dX7_open_17 rfl ?_
      refine ok_iconst C (v := 0) dX7_open_18 (by decide) ?_
      refine ok_aload_n C 0 dX7_open_19 rfl ?_
      refine ok_getI C frX7_160_11 dX7_open_20 (fun v5 => ?_)
      refine ok_callS C T [.int x2, .int 0, .int v5] (F := fX7_in x2 0 v5) (ctX7_in (C.2.2.2.2.2.2.2.2.1) x2 0 v5) vlX7_143 kw_793 rfl (by rw [hR.1, hR.2]; decide) (Nat.le_of_ble_eq_true rfl) dX7_open_23 (ok_qI fun v6 s7 => ?_)
      refine ok_if_eq C 38 dX7_open_26 (by decide) ?_ ?_
      · exact oX7_open_38 C T hn hR hin a0 x1 x2 a0 s7
      · refine ok_aload_n C 0 dX7_open_29 rfl ?_
        refine ok_iload_n C 1 dX7_open_30 rfl ?_
        refine ok_iload_n C 2 dX7_open_31 rfl ?_
        refine ok_callV C T [.int x1, .int x2] (F := fX7_sumFor a0 x1 x2) (ctX7_sumFor (C.2.2.2.2.2.2.2.2.1) a0 x1 x2) vlX7_304 viX7_sumFor rfl rfl (by decide) rfl (by rw [hR.1, hR.2]; decide) (Nat.le_of_ble_eq_true rfl) dX7_open_32 (ok_qI fun v8 s9 => ?_)
        refine ok_if_ge C 42 dX7_open_35 (by decide) ?_ ?_
        · refine ok_iconst C (v := 0) dX7_open_42 (by decide) ?_
          exact oX7_open_43 C T hn hR hin a0 x1 x2 a0 0 s9
        · exact oX7_open_38 C T hn hR hin a0 x1 x2 a0 s9
theorem ctX7_open {l : Launch} (hl : l.stackTraces = false) {D : va_G} {dA : Nat → ClassId} {B0 : Nat} (a0 : Nat) (x1 : Int32) (x2 : Int32) : Ct l D dA B0 yX7_open (.code yX7_open cX7_open 3 (some (.int)) :: ax_ALL) 8 211 [.ref a0, .int x1, .int x2] (fX7_open a0 x1 x2) :=
  Ct.of hl (by decide +kernel) (Nat.le_of_ble_eq_true rfl) fun Γ C _ _ _ _ e5 e6 e7 T hin => oX7_open C T e5 ⟨e6, e7⟩ hin a0 x1 x2 _
/-! ChaseLockerModel.lock(I)I -/
def fX7_lock_22  (a0 : Nat) (x1 : Int32) (t0 : Nat) (t1 : Int32) (s0 : AS) : Option AR :=
  cV s0 t0 11 (fX7_refuse t0 t1 3 s0) (qI (fun v1 s2 =>
  if v1 = 0 then (
    cV s2 a0 11 (fX7_keepsAll a0 s2) (qV (fun s3 =>
    cV s3 a0 11 (fX7_locks a0 x1 s3) (qI (fun v4 s5 =>
    cV s5 a0 11 (fX7_chosenMany a0 0 s5) (qI (fun v6 s7 =>
    some (.inl (some (.int v6)), s7))))))))
  else (
    some (.inl (some (.int 0)), s2))))
def fX7_lock (a0 : Nat) (x1 : Int32) (s0 : AS) : Option AR :=
  cV s0 a0 11 (fX7_noRow a0 x1 s0) (qI (fun v1 s2 =>
  if v1 = 0 then (
    cV s2 a0 11 (fX7_chooses a0 x1 s2) (qI (fun v3 s4 =>
    if v3 = 0 then (
      fX7_lock_22 a0 x1 a0 1 s4)
    else (
      fX7_lock_22 a0 x1 a0 0 s4))))
  else (
    some (.inl (some (.int 0)), s2))))
set_option maxHeartbeats 4000000 in
theorem oX7_lock_22 {Γ : CX} (C : OKC Γ cX7_lock RX7 (some (.int))) (T : ∀ z ∈ (cx_c Γ).exceptionTable.toList, False) (hn : cx_nL Γ = 3) (hR : cx_fr Γ = 10 ∧ cx_lo Γ = 261) (hin : (cx_meth Γ).name = yX7_lock.name) : ∀ (a0 : Nat) (x1 : Int32) (t0 : Nat) (t1 : Int32) (s0 : AS), OK Γ 22 [(0, .ref a0), (1, .int x1)] [.int t1, .ref t0] (fX7_lock_22  a0 x1 t0 t1 s0) s0 := by
  intro a0 x1 t0 t1 s0
  unfold fX7_lock_22
  refine ok_iconst C (v := 3) dX7_lock_22 (by decide) ?_
  refine ok_callV C T [.int t1, .int 3] (F := fX7_refuse t0 t1 3) (ctX7_refuse (C.2.2.2.2.2.2.2.2.1) t0 t1 3) vlX7_74 viX7_refuse rfl rfl (by decide) rfl (by rw [hR.1, hR.2]; decide) (Nat.le_of_ble_eq_true rfl) dX7_lock_23 (ok_qI fun v1 s2 => ?_)
  refine ok_if_eq C 31 dX7_lock_26 (by decide) ?_ ?_
  · refine ok_aload_n C 0 dX7_lock_31 rfl ?_
    refine ok_callV C T [] (F := fX7_keepsAll a0) (ctX7_keepsAll (C.2.2.2.2.2.2.2.2.1) a0) vlX7_392 viX7_keepsAll rfl rfl (by decide) rfl (by rw [hR.1, hR.2]; decide) (Nat.le_of_ble_eq_true rfl) dX7_lock_32 (ok_qV fun s3 => ?_)
    refine ok_aload_n C 0 dX7_lock_35 rfl ?_
    refine ok_iload_n C 1 dX7_lock_36 rfl ?_
    refine ok_callV C T [.int x1] (F := fX7_locks a0 x1) (ctX7_locks (C.2.2.2.2.2.2.2.2.1) a0 x1) vlX7_368 viX7_locks rfl rfl (by decide) rfl (by rw [hR.1, hR.2]; decide) (Nat.le_of_ble_eq_true rfl) dX7_lock_37 (ok_qI fun v4 s5 => ?_)
    refine ok_istore_n C (i := 2) [(2, .int v4), (0, .ref a0), (1, .int x1)] dX7_lock_40 rfl (by rw [hn]; decide) rfl ?_
    refine ok_aload_n C 1 dX7_lock_41 rfl ?_
    refine ok_iconst C (v := 0) dX7_lock_42 (by decide) ?_
    refine ok_callV C T [.int 0] (F := fX7_chosenMany a0 0) (ctX7_chosenMany (C.2.2.2.2.2.2.2.2.1) a0 0) vlX7_344 viX7_chosenMany rfl rfl (by decide) rfl (by rw [hR.1, hR.2]; decide) (Nat.le_of_ble_eq_true rfl) dX7_lock_43 (ok_qI fun v6 s7 => ?_)
    exact ok_ireturn C dX7_lock_46
  · refine ok_iconst C (v := 0) dX7_lock_29 (by decide) ?_
    exact ok_ireturn C dX7_lock_30
set_option maxHeartbeats 4000000 in
theorem oX7_lock {Γ : CX} (C : OKC Γ cX7_lock RX7 (some (.int))) (T : ∀ z ∈ (cx_c Γ).exceptionTable.toList, False) (hn : cx_nL Γ = 3) (hR : cx_fr Γ = 10 ∧ cx_lo Γ = 261) (hin : (cx_meth Γ).name = yX7_lock.name) : ∀ (a0 : Nat) (x1 : Int32) (s0 : AS), OK Γ 0 [(0, .ref a0), (1, .int x1)] [] (fX7_lock a0 x1 s0) s0 := by
  intro a0 x1 s0
  unfold fX7_lock
  refine ok_aload_n C 0 dX7_lock_0 rfl ?_
  refine ok_iload_n C 1 dX7_lock_1 rfl ?_
  refine ok_callV C T [.int x1] (F := fX7_noRow a0 x1) (ctX7_noRow (C.2.2.2.2.2.2.2.2.1) a0 x1) vlX7_335 viX7_noRow rfl rfl (by decide) rfl (by rw [hR.1, hR.2]; decide) (Nat.le_of_ble_eq_true rfl) dX7_lock_2 (ok_qI fun v1 s2 => ?_)
  refine ok_if_ne C 29 dX7_lock_5 (by decide) ?_ ?_
  · refine ok_iconst C (v := 0) dX7_lock_29 (by decide) ?_
    exact ok_ireturn C dX7_lock_30
  · refine ok_aload_n C 0 dX7_lock_8 rfl ?_
    refine ok_aload_n C 0 dX7_lock_9 rfl ?_
    refine ok_iload_n C 1 dX7_lock_10 rfl ?_
    refine ok_callV C T [.int x1] (F := fX7_chooses a0 x1) (ctX7_chooses (C.2.2.2.2.2.2.2.2.1) a0 x1) vlX7_311 viX7_chooses rfl rfl (by decide) rfl (by rw [hR.1, hR.2]; decide) (Nat.le_of_ble_eq_true rfl) dX7_lock_11 (ok_qI fun v3 s4 => ?_)
    refine ok_if_ne C 21 dX7_lock_14 (by decide) ?_ ?_
    · refine ok_iconst C (v := 0) dX7_lock_21 (by decide) ?_
      exact oX7_lock_22 C T hn hR hin a0 x1 a0 0 s4
    · refine ok_iconst C (v := 1) dX7_lock_17 (by decide) ?_
      refine ok_goto C 22 dX7_lock_18 (by decide) ?_
      exact oX7_lock_22 C T hn hR hin a0 x1 a0 1 s4
theorem ctX7_lock {l : Launch} (hl : l.stackTraces = false) {D : va_G} {dA : Nat → ClassId} {B0 : Nat} (a0 : Nat) (x1 : Int32) : Ct l D dA B0 yX7_lock (.code yX7_lock cX7_lock 3 (some (.int)) :: ax_ALL) 10 261 [.ref a0, .int x1] (fX7_lock a0 x1) :=
  Ct.of hl (by decide +kernel) (Nat.le_of_ble_eq_true rfl) fun Γ C _ _ _ _ e5 e6 e7 T hin => oX7_lock C T e5 ⟨e6, e7⟩ hin a0 x1 _
/-! ChaseLockerModel.unlock(I)I -/
def fX7_unlock (a0 : Nat) (x1 : Int32) (s0 : AS) : Option AR :=
  cV s0 a0 11 (fX7_noRow a0 x1 s0) (qI (fun v1 s2 =>
  if v1 = 0 then (
    cV s2 a0 11 (fX7_keepsAll a0 s2) (qV (fun s3 =>
    cV s3 a0 11 (fX7_empties a0 x1 s3) (qI (fun v4 s5 =>
    some (.inl (some (.int v4)), s5))))))
  else (
    some (.inl (some (.int 0)), s2))))
set_option maxHeartbeats 4000000 in
theorem oX7_unlock {Γ : CX} (C : OKC Γ cX7_unlock RX7 (some (.int))) (T : ∀ z ∈ (cx_c Γ).exceptionTable.toList, False) (hn : cx_nL Γ = 2) (hR : cx_fr Γ = 5 ∧ cx_lo Γ = 147) (hin : (cx_meth Γ).name = yX7_unlock.name) : ∀ (a0 : Nat) (x1 : Int32) (s0 : AS), OK Γ 0 [(0, .ref a0), (1, .int x1)] [] (fX7_unlock a0 x1 s0) s0 := by
  intro a0 x1 s0
  unfold fX7_unlock
  refine ok_aload_n C 0 dX7_unlock_0 rfl ?_
  refine ok_iload_n C 1 dX7_unlock_1 rfl ?_
  refine ok_callV C T [.int x1] (F := fX7_noRow a0 x1) (ctX7_noRow (C.2.2.2.2.2.2.2.2.1) a0 x1) vlX7_335 viX7_noRow rfl rfl (by decide) rfl (by rw [hR.1, hR.2]; decide) (Nat.le_of_ble_eq_true rfl) dX7_unlock_2 (ok_qI fun v1 s2 => ?_)
  refine ok_if_eq C 10 dX7_unlock_5 (by decide) ?_ ?_
  · refine ok_aload_n C 0 dX7_unlock_10 rfl ?_
    refine ok_callV C T [] (F := fX7_keepsAll a0) (ctX7_keepsAll (C.2.2.2.2.2.2.2.2.1) a0) vlX7_392 viX7_keepsAll rfl rfl (by decide) rfl (by rw [hR.1, hR.2]; decide) (Nat.le_of_ble_eq_true rfl) dX7_unlock_11 (ok_qV fun s3 => ?_)
    refine ok_aload_n C 0 dX7_unlock_14 rfl ?_
    refine ok_iload_n C 1 dX7_unlock_15 rfl ?_
    refine ok_callV C T [.int x1] (F := fX7_empties a0 x1) (ctX7_empties (C.2.2.2.2.2.2.2.2.1) a0 x1) vlX7_260 viX7_empties rfl rfl (by decide) rfl (by rw [hR.1, hR.2]; decide) (Nat.le_of_ble_eq_true rfl) dX7_unlock_16 (ok_qI fun v4 s5 => ?_)
    exact ok_ireturn C dX7_unlock_19
  · refine ok_iconst C (v := 0) dX7_unlock_8 (by decide) ?_
    exact ok_ireturn C dX7_unlock_9
theorem ctX7_unlock {l : Launch} (hl : l.stackTraces = false) {D : va_G} {dA : Nat → ClassId} {B0 : Nat} (a0 : Nat) (x1 : Int32) : Ct l D dA B0 yX7_unlock (.code yX7_unlock cX7_unlock 2 (some (.int)) :: ax_ALL) 5 147 [.ref a0, .int x1] (fX7_unlock a0 x1) :=
  Ct.of hl (by decide +kernel) (Nat.le_of_ble_eq_true rfl) fun Γ C _ _ _ _ e5 e6 e7 T hin => oX7_unlock C T e5 ⟨e6, e7⟩ hin a0 x1 _
/-! ChaseLockerModel.relock(I)I -/
def fX7_relock_43  (a0 : Nat) (x1 : Int32) (t0 : Nat) (t1 : Int32) (s0 : AS) : Option AR :=
  cV s0 t0 11 (fX7_refuse t0 t1 3 s0) (qI (fun v1 s2 =>
  if v1 = 0 then (
    cV s2 a0 11 (fX7_keepsAll a0 s2) (qV (fun s3 =>
    cV s3 a0 11 (fX7_empties a0 x1 s3) (qI (fun v4 s5 =>
    cV s5 a0 11 (fX7_locks a0 x1 s5) (qI (fun v6 s7 =>
    cV s7 a0 11 (fX7_chosenMany a0 0 s7) (qI (fun v8 s9 =>
    some (.inl (some (.int v8)), s9))))))))))
  else (
    some (.inl (some (.int 0)), s2))))
def fX7_relock (a0 : Nat) (x1 : Int32) (s0 : AS) : Option AR :=
  cV s0 a0 11 (fX7_noRow a0 x1 s0) (qI (fun v1 s2 =>
  if v1 = 0 then (
    cV s2 a0 11 (fX7_putsAside a0 s2) (qV (fun s3 =>
    cV s3 a0 11 (fX7_empties a0 x1 s3) (qI (fun v4 s5 =>
    cV s5 a0 11 (fX7_chooses a0 x1 s5) (qI (fun v6 s7 =>
    cS s7 (fX7_flag v6 s7) (qI (fun v8 s9 =>
    cV s9 a0 11 (fX7_fetchesBack a0 v8 s9) (qI (fun v10 s11 =>
    if v10 = 0 then (
      fX7_relock_43 a0 x1 a0 1 s11)
    else (
      fX7_relock_43 a0 x1 a0 0 s11))))))))))))
  else (
    some (.inl (some (.int 0)), s2))))
set_option maxHeartbeats 4000000 in
theorem oX7_relock_43 {Γ : CX} (C : OKC Γ cX7_relock RX7 (some (.int))) (T : ∀ z ∈ (cx_c Γ).exceptionTable.toList, False) (hn : cx_nL Γ = 5) (hR : cx_fr Γ = 10 ∧ cx_lo Γ = 261) (hin : (cx_meth Γ).name = yX7_relock.name) : ∀ (a0 : Nat) (x1 : Int32) (t0 : Nat) (t1 : Int32) (s0 : AS), OK Γ 43 [(0, .ref a0), (1, .int x1)] [.int t1, .ref t0] (fX7_relock_43  a0 x1 t0 t1 s0) s0 := by
  intro a0 x1 t0 t1 s0
  unfold fX7_relock_43
  refine ok_iconst C (v := 3) dX7_relock_43 (by decide) ?_
  refine ok_callV C T [.int t1, .int 3] (F := fX7_refuse t0 t1 3) (ctX7_refuse (C.2.2.2.2.2.2.2.2.1) t0 t1 3) vlX7_74 viX7_refuse rfl rfl (by decide) rfl (by rw [hR.1, hR.2]; decide) (Nat.le_of_ble_eq_true rfl) dX7_relock_44 (ok_qI fun v1 s2 => ?_)
  refine ok_if_eq C 52 dX7_relock_47 (by decide) ?_ ?_
  · refine ok_aload_n C 0 dX7_relock_52 rfl ?_
    refine ok_callV C T [] (F := fX7_keepsAll a0) (ctX7_keepsAll (C.2.2.2.2.2.2.2.2.1) a0) vlX7_392 viX7_keepsAll rfl rfl (by decide) rfl (by rw [hR.1, hR.2]; decide) (Nat.le_of_ble_eq_true rfl) dX7_relock_53 (ok_qV fun s3 => ?_)
    refine ok_aload_n C 0 dX7_relock_56 rfl ?_
    refine ok_iload_n C 1 dX7_relock_57 rfl ?_
    refine ok_callV C T [.int x1] (F := fX7_empties a0 x1) (ctX7_empties (C.2.2.2.2.2.2.2.2.1) a0 x1) vlX7_260 viX7_empties rfl rfl (by decide) rfl (by rw [hR.1, hR.2]; decide) (Nat.le_of_ble_eq_true rfl) dX7_relock_58 (ok_qI fun v4 s5 => ?_)
    refine ok_istore_n C (i := 2) [(2, .int v4), (0, .ref a0), (1, .int x1)] dX7_relock_61 rfl (by rw [hn]; decide) rfl ?_
    refine ok_aload_n C 1 dX7_relock_62 rfl ?_
    refine ok_iload_n C 2 dX7_relock_63 rfl ?_
    refine ok_callV C T [.int x1] (F := fX7_locks a0 x1) (ctX7_locks (C.2.2.2.2.2.2.2.2.1) a0 x1) vlX7_368 viX7_locks rfl rfl (by decide) rfl (by rw [hR.1, hR.2]; decide) (Nat.le_of_ble_eq_true rfl) dX7_relock_64 (ok_qI fun v6 s7 => ?_)
    refine ok_istore C (i := 4) [(4, .int v6), (2, .int v4), (0, .ref a0), (1, .int x1)] dX7_relock_67 (by rw [hn]; decide) rfl ?_
    refine ok_aload_n C 2 dX7_relock_69 rfl ?_
    refine ok_iconst C (v := 0) dX7_relock_70 (by decide) ?_
    refine ok_callV C T [.int 0] (F := fX7_chosenMany a0 0) (ctX7_chosenMany (C.2.2.2.2.2.2.2.2.1) a0 0) vlX7_344 viX7_chosenMany rfl rfl (by decide) rfl (by rw [hR.1, hR.2]; decide) (Nat.le_of_ble_eq_true rfl) dX7_relock_71 (ok_qI fun v8 s9 => ?_)
    exact ok_ireturn C dX7_relock_74
  · refine ok_iconst C (v := 0) dX7_relock_50 (by decide) ?_
    exact ok_ireturn C dX7_relock_51
set_option maxHeartbeats 4000000 in
theorem oX7_relock {Γ : CX} (C : OKC Γ cX7_relock RX7 (some (.int))) (T : ∀ z ∈ (cx_c Γ).exceptionTable.toList, False) (hn : cx_nL Γ = 5) (hR : cx_fr Γ = 10 ∧ cx_lo Γ = 261) (hin : (cx_meth Γ).name = yX7_relock.name) : ∀ (a0 : Nat) (x1 : Int32) (s0 : AS), OK Γ 0 [(0, .ref a0), (1, .int x1)] [] (fX7_relock a0 x1 s0) s0 := by
  intro a0 x1 s0
  unfold fX7_relock
  refine ok_aload_n C 0 dX7_relock_0 rfl ?_
  refine ok_iload_n C 1 dX7_relock_1 rfl ?_
  refine ok_callV C T [.int x1] (F := fX7_noRow a0 x1) (ctX7_noRow (C.2.2.2.2.2.2.2.2.1) a0 x1) vlX7_335 viX7_noRow rfl rfl (by decide) rfl (by rw [hR.1, hR.2]; decide) (Nat.le_of_ble_eq_true rfl) dX7_relock_2 (ok_qI fun v1 s2 => ?_)
  refine ok_if_eq C 10 dX7_relock_5 (by decide) ?_ ?_
  · refine ok_aload_n C 0 dX7_relock_10 rfl ?_
    refine ok_callV C T [] (F := fX7_putsAside a0) (ctX7_putsAside (C.2.2.2.2.2.2.2.2.1) a0) vlX7_353 viX7_putsAside rfl rfl (by decide) rfl (by rw [hR.1, hR.2]; decide) (Nat.le_of_ble_eq_true rfl) dX7_relock_11 (ok_qV fun s3 => ?_)
    refine ok_aload_n C 0 dX7_relock_14 rfl ?_
    refine ok_iload_n C 1 dX7_relock_15 rfl ?_
    refine ok_callV C T [.int x1] (F := fX7_empties a0 x1) (ctX7_empties (C.2.2.2.2.2.2.2.2.1) a0 x1) vlX7_260 viX7_empties rfl rfl (by decide) rfl (by rw [hR.1, hR.2]; decide) (Nat.le_of_ble_eq_true rfl) dX7_relock_16 (ok_qI fun v4 s5 => ?_)
    refine ok_istore_n C (i := 2) [(2, .int v4), (0, .ref a0), (1, .int x1)] dX7_relock_19 rfl (by rw [hn]; decide) rfl ?_
    refine ok_aload_n C 1 dX7_relock_20 rfl ?_
    refine ok_aload_n C 1 dX7_relock_21 rfl ?_
    refine ok_iload_n C 2 dX7_relock_22 rfl ?_
    refine ok_callV C T [.int x1] (F := fX7_chooses a0 x1) (ctX7_chooses (C.2.2.2.2.2.2.2.2.1) a0 x1) vlX7_311 viX7_chooses rfl rfl (by decide) rfl (by rw [hR.1, hR.2]; decide) (Nat.le_of_ble_eq_true rfl) dX7_relock_23 (ok_qI fun v6 s7 => ?_)
    refine ok_callS C T [.int v6] (F := fX7_flag v6) (ctX7_flag (C.2.2.2.2.2.2.2.2.1) v6) vlX7_250 kw_882 rfl (by rw [hR.1, hR.2]; decide) (Nat.le_of_ble_eq_true rfl) dX7_relock_26 (ok_qI fun v8 s9 => ?_)
    refine ok_callV C T [.int v8] (F := fX7_fetchesBack a0 v8) (ctX7_fetchesBack (C.2.2.2.2.2.2.2.2.1) a0 v8) vlX7_356 viX7_fetchesBack rfl rfl (by decide) rfl (by rw [hR.1, hR.2]; decide) (Nat.le_of_ble_eq_true rfl) dX7_relock_29 (ok_qI fun v10 s11 => ?_)
    refine ok_istore_n C (i := 3) [(3, .int v10), (2, .int v4), (0, .ref a0), (1, .int x1)] dX7_relock_32 rfl (by rw [hn]; decide) rfl ?_
    refine ok_aload_n C 2 dX7_relock_33 rfl ?_
    refine ok_iload_n C 0 dX7_relock_34 rfl ?_
    refine ok_if_ne C 42 dX7_relock_35 (by decide) ?_ ?_
    · refine ok_iconst C (v := 0) dX7_relock_42 (by decide) ?_
      refine OK.sub (lv' := [(0, .ref a0), (1, .int x1)]) [2, 3] rfl ?_
      exact oX7_relock_43 C T hn hR hin a0 x1 a0 0 s11
    · refine ok_iconst C (v := 1) dX7_relock_38 (by decide) ?_
      refine ok_goto C 43 dX7_relock_39 (by decide) ?_
      refine OK.sub (lv' := [(0, .ref a0), (1, .int x1)]) [2, 3] rfl ?_
      exact oX7_relock_43 C T hn hR hin a0 x1 a0 1 s11
  · refine ok_iconst C (v := 0) dX7_relock_8 (by decide) ?_
    exact ok_ireturn C dX7_relock_9
theorem ctX7_relock {l : Launch} (hl : l.stackTraces = false) {D : va_G} {dA : Nat → ClassId} {B0 : Nat} (a0 : Nat) (x1 : Int32) : Ct l D dA B0 yX7_relock (.code yX7_relock cX7_relock 5 (some (.int)) :: ax_ALL) 10 261 [.ref a0, .int x1] (fX7_relock a0 x1) :=
  Ct.of hl (by decide +kernel) (Nat.le_of_ble_eq_true rfl) fun Γ C _ _ _ _ e5 e6 e7 T hin => oX7_relock C T e5 ⟨e6, e7⟩ hin a0 x1 _
/-! ChaseLockerModel.tighten(I)I -/
def fX7_tighten_107  (a0 : Nat) (x1 : Int32) (s0 : AS) : Option AR :=
  cV s0 a0 11 (fX7_of a0 x1 4 s0) (qI (fun v1 s2 =>
  some (.inl (some (.int v1)), s2)))
def fX7_tighten_35  : Nat → Nat → Int32 → AS → Option AR
  | 0, _, _, _ => none
  | n + 1, a0, x1, s0 =>
    cV s0 a0 11 (fX7_of a0 x1 2 s0) (qI (fun v1 s2 =>
    gI s2 a0 11 5 (fun v3 =>
    if v3 ≤ v1 then (
      fX7_tighten_107 a0 x1 s2)
    else (
      cV s2 a0 11 (fX7_of a0 x1 4 s2) (qI (fun v4 s5 =>
      if v4 ≤ 0 then (
        fX7_tighten_107 a0 x1 s5)
      else (
        cV s5 a0 11 (fX7_of a0 x1 2 s5) (qI (fun v6 s7 =>
        cV s7 a0 11 (fX7_puts a0 x1 2 (v6 + 1) s7) (qV (fun s8 =>
        cV s8 a0 11 (fX7_of a0 x1 3 s8) (qI (fun v9 s10 =>
        cV s10 a0 11 (fX7_puts a0 x1 3 (v9 + 1) s10) (qV (fun s11 =>
        cV s11 a0 11 (fX7_of a0 x1 4 s11) (qI (fun v12 s13 =>
        lt (if (0 : Int32) < (v12 - 10) then (v12 - 10) else (0 : Int32)) (fun v14 =>
        cV s13 a0 11 (fX7_puts a0 x1 4 v14 s13) (qV (fun s15 =>
        fX7_tighten_35 n a0 x1 s15))))))))))))))))))))
def fX7_tighten_22  (a0 : Nat) (x1 : Int32) (t0 : Nat) (t1 : Int32) (s0 : AS) : Option AR :=
  cV s0 t0 11 (fX7_refuse t0 t1 3 s0) (qI (fun v1 s2 =>
  if v1 = 0 then (
    cV s2 a0 11 (fX7_keepsAll a0 s2) (qV (fun s3 =>
    fX7_tighten_35 FU a0 x1 s3)))
  else (
    some (.inl (some (.int 0)), s2))))
def fX7_tighten (a0 : Nat) (x1 : Int32) (s0 : AS) : Option AR :=
  cV s0 a0 11 (fX7_noRow a0 x1 s0) (qI (fun v1 s2 =>
  if v1 = 0 then (
    cV s2 a0 11 (fX7_hasQuoin a0 x1 s2) (qI (fun v3 s4 =>
    if v3 = 0 then (
      fX7_tighten_22 a0 x1 a0 1 s4)
    else (
      fX7_tighten_22 a0 x1 a0 0 s4))))
  else (
    some (.inl (some (.int 0)), s2))))
set_option maxHeartbeats 4000000 in
theorem oX7_tighten_107 {Γ : CX} (C : OKC Γ cX7_tighten RX7 (some (.int))) (T : ∀ z ∈ (cx_c Γ).exceptionTable.toList, False) (hn : cx_nL Γ = 2) (hR : cx_fr Γ = 4 ∧ cx_lo Γ = 124) (hin : (cx_meth Γ).name = yX7_tighten.name) : ∀ (a0 : Nat) (x1 : Int32) (s0 : AS), OK Γ 107 [(0, .ref a0), (1, .int x1)] [] (fX7_tighten_107  a0 x1 s0) s0 := by
  intro a0 x1 s0
  unfold fX7_tighten_107
  refine ok_aload_n C 0 dX7_tighten_107 rfl ?_
  refine ok_iload_n C 1 dX7_tighten_108 rfl ?_
  refine ok_iconst C (v := 4) dX7_tighten_109 (by decide) ?_
  refine ok_callV C T [.int x1, .int 4] (F := fX7_of a0 x1 4) (ctX7_of (C.2.2.2.2.2.2.2.2.1) a0 x1 4) vlX7_189 viX7_of rfl rfl (by decide) rfl (by rw [hR.1, hR.2]; decide) (Nat.le_of_ble_eq_true rfl) dX7_tighten_110 (ok_qI fun v1 s2 => ?_)
  exact ok_ireturn C dX7_tighten_113
set_option maxHeartbeats 4000000 in
theorem oX7_tighten_35 {Γ : CX} (C : OKC Γ cX7_tighten RX7 (some (.int))) (T : ∀ z ∈ (cx_c Γ).exceptionTable.toList, False) (hn : cx_nL Γ = 2) (hR : cx_fr Γ = 4 ∧ cx_lo Γ = 124) (hin : (cx_meth Γ).name = yX7_tighten.name) : ∀ (n : Nat) (a0 : Nat) (x1 : Int32) (s0 : AS), OK Γ 35 [(0, .ref a0), (1, .int x1)] [] (fX7_tighten_35 n a0 x1 s0) s0 := by
  intro n
  induction n with
  | zero => intro _ _ s0; exact OK.none
  | succ n ih =>
    intro a0 x1 s0
    rw [fX7_tighten_35]
    refine ok_aload_n C 0 dX7_tighten_35 rfl ?_
    refine ok_iload_n C 1 dX7_tighten_36 rfl ?_
    refine ok_iconst C (v := 2) dX7_tighten_37 (by decide) ?_
    refine ok_callV C T [.int x1, .int 2] (F := fX7_of a0 x1 2) (ctX7_of (C.2.2.2.2.2.2.2.2.1) a0 x1 2) vlX7_189 viX7_of rfl rfl (by decide) rfl (by rw [hR.1, hR.2]; decide) (Nat.le_of_ble_eq_true rfl) dX7_tighten_38 (ok_qI fun v1 s2 => ?_)
    refine ok_aload_n C 0 dX7_tighten_41 rfl ?_
    refine ok_getI C frX7_160_11 dX7_tighten_42 (fun v3 => ?_)
    refine ok_icmp_ge C 107 dX7_tighten_45 (by decide) ?_ ?_
    · exact oX7_tighten_107 C T hn hR hin a0 x1 s2
    · refine ok_aload_n C 0 dX7_tighten_48 rfl ?_
      refine ok_iload_n C 1 dX7_tighten_49 rfl ?_
      refine ok_iconst C (v := 4) dX7_tighten_50 (by decide) ?_
      refine ok_callV C T [.int x1, .int 4] (F := fX7_of a0 x1 4) (ctX7_of (C.2.2.2.2.2.2.2.2.1) a0 x1 4) vlX7_189 viX7_of rfl rfl (by decide) rfl (by rw [hR.1, hR.2]; decide) (Nat.le_of_ble_eq_true rfl) dX7_tighten_51 (ok_qI fun v4 s5 => ?_)
      refine ok_if_le C 107 dX7_tighten_54 (by decide) ?_ ?_
      · exact oX7_tighten_107 C T hn hR hin a0 x1 s5
      · refine ok_aload_n C 0 dX7_tighten_57 rfl ?_
        refine ok_iload_n C 1 dX7_tighten_58 rfl ?_
        refine ok_iconst C (v := 2) dX7_tighten_59 (by decide) ?_
        refine ok_aload_n C 0 dX7_tighten_60 rfl ?_
        refine ok_iload_n C 1 dX7_tighten_61 rfl ?_
        refine ok_iconst C (v := 2) dX7_tighten_62 (by decide) ?_
        refine ok_callV C T [.int x1, .int 2] (F := fX7_of a0 x1 2) (ctX7_of (C.2.2.2.2.2.2.2.2.1) a0 x1 2) vlX7_189 viX7_of rfl rfl (by decide) rfl (by rw [hR.1, hR.2]; decide) (Nat.le_of_ble_eq_true rfl) dX7_tighten_63 (ok_qI fun v6 s7 => ?_)
        refine ok_iconst C (v := 1) dX7_tighten_66 (by decide) ?_
        refine ok_iadd C dX7_tighten_67 ?_
        refine ok_callV C T [.int x1, .int 2, .int (v6 + 1)] (F := fX7_puts a0 x1 2 (v6 + 1)) (ctX7_puts (C.2.2.2.2.2.2.2.2.1) a0 x1 2 (v6 + 1)) vlX7_178 viX7_puts rfl rfl (by decide) rfl (by rw [hR.1, hR.2]; decide) (Nat.le_of_ble_eq_true rfl) dX7_tighten_68 (ok_qV fun s8 => ?_)
        refine ok_aload_n C 0 dX7_tighten_71 rfl ?_
        refine ok_iload_n C 1 dX7_tighten_72 rfl ?_
        refine ok_iconst C (v := 3) dX7_tighten_73 (by decide) ?_
        refine ok_aload_n C 0 dX7_tighten_74 rfl ?_
        refine ok_iload_n C 1 dX7_tighten_75 rfl ?_
        refine ok_iconst C (v := 3) dX7_tighten_76 (by decide) ?_
        refine ok_callV C T [.int x1, .int 3] (F := fX7_of a0 x1 3) (ctX7_of (C.2.2.2.2.2.2.2.2.1) a0 x1 3) vlX7_189 viX7_of rfl rfl (by decide) rfl (by rw [hR.1, hR.2]; decide) (Nat.le_of_ble_eq_true rfl) dX7_tighten_77 (ok_qI fun v9 s10 => ?_)
        refine ok_iconst C (v := 1) dX7_tighten_80 (by decide) ?_
        refine ok_iadd C dX7_tighten_81 ?_
        refine ok_callV C T [.int x1, .int 3, .int (v9 + 1)] (F := fX7_puts a0 x1 3 (v9 + 1)) (ctX7_puts (C.2.2.2.2.2.2.2.2.1) a0 x1 3 (v9 + 1)) vlX7_178 viX7_puts rfl rfl (by decide) rfl (by rw [hR.1, hR.2]; decide) (Nat.le_of_ble_eq_true rfl) dX7_tighten_82 (ok_qV fun s11 => ?_)
        refine ok_aload_n C 0 dX7_tighten_85 rfl ?_
        refine ok_iload_n C 1 dX7_tighten_86 rfl ?_
        refine ok_iconst C (v := 4) dX7_tighten_87 (by decide) ?_
        refine ok_iconst C (v := 0) dX7_tighten_88 (by decide) ?_
        refine ok_aload_n C 0 dX7_tighten_89 rfl ?_
        refine ok_iload_n C 1 dX7_tighten_90 rfl ?_
        refine ok_iconst C (v := 4) dX7_tighten_91 (by decide) ?_
        refine ok_callV C T [.int x1, .int 4] (F := fX7_of a0 x1 4) (ctX7_of (C.2.2.2.2.2.2.2.2.1) a0 x1 4) vlX7_189 viX7_of rfl rfl (by decide) rfl (by rw [hR.1, hR.2]; decide) (Nat.le_of_ble_eq_true rfl) dX7_tighten_92 (ok_qI fun v12 s13 => ?_)
        refine ok_bipush C (v := 10) dX7_tighten_95 (by decide) ?_
        refine ok_isub C dX7_tighten_97 ?_
        refine ok_mmax C mlX7_395 (by rw [hR.1]; decide) (by rw [hR.2]; exact Nat.le_of_ble_eq_true rfl) dX7_tighten_98 ?_
        refine ok_lt (fun v14 => ?_)
        refine ok_callV C T [.int x1, .int 4, .int v14] (F := fX7_puts a0 x1 4 v14) (ctX7_puts (C.2.2.2.2.2.2.2.2.1) a0 x1 4 v14) vlX7_178 viX7_puts rfl rfl (by decide) rfl (by rw [hR.1, hR.2]; decide) (Nat.le_of_ble_eq_true rfl) dX7_tighten_101 (ok_qV fun s15 => ?_)
        refine ok_goto C 35 dX7_tighten_104 (by decide) ?_
        exact ih a0 x1 s15
set_option maxHeartbeats 4000000 in
theorem oX7_tighten_22 {Γ : CX} (C : OKC Γ cX7_tighten RX7 (some (.int))) (T : ∀ z ∈ (cx_c Γ).exceptionTable.toList, False) (hn : cx_nL Γ = 2) (hR : cx_fr Γ = 4 ∧ cx_lo Γ = 124) (hin : (cx_meth Γ).name = yX7_tighten.name) : ∀ (a0 : Nat) (x1 : Int32) (t0 : Nat) (t1 : Int32) (s0 : AS), OK Γ 22 [(0, .ref a0), (1, .int x1)] [.int t1, .ref t0] (fX7_tighten_22  a0 x1 t0 t1 s0) s0 := by
  intro a0 x1 t0 t1 s0
  unfold fX7_tighten_22
  refine ok_iconst C (v := 3) dX7_tighten_22 (by decide) ?_
  refine ok_callV C T [.int t1, .int 3] (F := fX7_refuse t0 t1 3) (ctX7_refuse (C.2.2.2.2.2.2.2.2.1) t0 t1 3) vlX7_74 viX7_refuse rfl rfl (by decide) rfl (by rw [hR.1, hR.2]; decide) (Nat.le_of_ble_eq_true rfl) dX7_tighten_23 (ok_qI fun v1 s2 => ?_)
  refine ok_if_eq C 31 dX7_tighten_26 (by decide) ?_ ?_
  · refine ok_aload_n C 0 dX7_tighten_31 rfl ?_
    refine ok_callV C T [] (F := fX7_keepsAll a0) (ctX7_keepsAll (C.2.2.2.2.2.2.2.2.1) a0) vlX7_392 viX7_keepsAll rfl rfl (by decide) rfl (by rw [hR.1, hR.2]; decide) (Nat.le_of_ble_eq_true rfl) dX7_tighten_32 (ok_qV fun s3 => ?_)
    exact oX7_tighten_35 C T hn hR hin FU a0 x1 s3
  · refine ok_iconst C (v := 0) dX7_tighten_29 (by decide) ?_
    exact ok_ireturn C dX7_tighten_30
set_option maxHeartbeats 4000000 in
theorem oX7_tighten {Γ : CX} (C : OKC Γ cX7_tighten RX7 (some (.int))) (T : ∀ z ∈ (cx_c Γ).exceptionTable.toList, False) (hn : cx_nL Γ = 2) (hR : cx_fr Γ = 4 ∧ cx_lo Γ = 124) (hin : (cx_meth Γ).name = yX7_tighten.name) : ∀ (a0 : Nat) (x1 : Int32) (s0 : AS), OK Γ 0 [(0, .ref a0), (1, .int x1)] [] (fX7_tighten a0 x1 s0) s0 := by
  intro a0 x1 s0
  unfold fX7_tighten
  refine ok_aload_n C 0 dX7_tighten_0 rfl ?_
  refine ok_iload_n C 1 dX7_tighten_1 rfl ?_
  refine ok_callV C T [.int x1] (F := fX7_noRow a0 x1) (ctX7_noRow (C.2.2.2.2.2.2.2.2.1) a0 x1) vlX7_335 viX7_noRow rfl rfl (by decide) rfl (by rw [hR.1, hR.2]; decide) (Nat.le_of_ble_eq_true rfl) dX7_tighten_2 (ok_qI fun v1 s2 => ?_)
  refine ok_if_ne C 29 dX7_tighten_5 (by decide) ?_ ?_
  · refine ok_iconst C (v := 0) dX7_tighten_29 (by decide) ?_
    exact ok_ireturn C dX7_tighten_30
  · refine ok_aload_n C 0 dX7_tighten_8 rfl ?_
    refine ok_aload_n C 0 dX7_tighten_9 rfl ?_
    refine ok_iload_n C 1 dX7_tighten_10 rfl ?_
    refine ok_callV C T [.int x1] (F := fX7_hasQuoin a0 x1) (ctX7_hasQuoin (C.2.2.2.2.2.2.2.2.1) a0 x1) vlX7_238 viX7_hasQuoin rfl rfl (by decide) rfl (by rw [hR.1, hR.2]; decide) (Nat.le_of_ble_eq_true rfl) dX7_tighten_11 (ok_qI fun v3 s4 => ?_)
    refine ok_if_ne C 21 dX7_tighten_14 (by decide) ?_ ?_
    · refine ok_iconst C (v := 0) dX7_tighten_21 (by decide) ?_
      exact oX7_tighten_22 C T hn hR hin a0 x1 a0 0 s4
    · refine ok_iconst C (v := 1) dX7_tighten_17 (by decide) ?_
      refine ok_goto C 22 dX7_tighten_18 (by decide) ?_
      exact oX7_tighten_22 C T hn hR hin a0 x1 a0 1 s4
theorem ctX7_tighten {l : Launch} (hl : l.stackTraces = false) {D : va_G} {dA : Nat → ClassId} {B0 : Nat} (a0 : Nat) (x1 : Int32) : Ct l D dA B0 yX7_tighten (.code yX7_tighten cX7_tighten 2 (some (.int)) :: ax_ALL) 4 124 [.ref a0, .int x1] (fX7_tighten a0 x1) :=
  Ct.of hl (by decide +kernel) (Nat.le_of_ble_eq_true rfl) fun Γ C _ _ _ _ e5 e6 e7 T hin => oX7_tighten C T e5 ⟨e6, e7⟩ hin a0 x1 _
/-! ChaseLockerModel.print(I)I -/
def fX7_print_45  : Nat → Nat → Int32 → Int32 → Int32 → AS → Option AR
  | 0, _, _, _, _, _ => none
  | n + 1, a0, x1, x2, x3, s0 =>
    if x1 ≤ x3 then (
      gR s0 a0 11 12 (fun q1 =>
      aI s0 q1 100 2 (fun v2 =>
      some (.inl (some (.int (v2 - x2))), s0))))
    else (
      cV s0 a0 11 (fX7_prints a0 s0) (qI (fun v3 s4 =>
      lt (x3 + 1) (fun v5 =>
      fX7_print_45 n a0 x1 x2 v5 s4))))
def fX7_print_23  (a0 : Nat) (x1 : Int32) (t0 : Nat) (t1 : Int32) (s0 : AS) : Option AR :=
  cV s0 t0 11 (fX7_refuse t0 t1 2 s0) (qI (fun v1 s2 =>
  if v1 = 0 then (
    cV s2 a0 11 (fX7_keepsAll a0 s2) (qV (fun s3 =>
    gR s3 a0 11 12 (fun q4 =>
    aI s3 q4 100 2 (fun v5 =>
    fX7_print_45 FU a0 x1 v5 0 s3)))))
  else (
    some (.inl (some (.int 0)), s2))))
def fX7_print (a0 : Nat) (x1 : Int32) (s0 : AS) : Option AR :=
  cV s0 a0 11 (fX7_notLoaded a0 s0) (qI (fun v1 s2 =>
  if v1 = 0 then (
    cS s2 (fX7_in x1 1 100 s2) (qI (fun v3 s4 =>
    if v3 = 0 then (
      fX7_print_23 a0 x1 a0 1 s4)
    else (
      fX7_print_23 a0 x1 a0 0 s4))))
  else (
    some (.inl (some (.int 0)), s2))))
set_option maxHeartbeats 4000000 in
theorem oX7_print_45 {Γ : CX} (C : OKC Γ cX7_print RX7 (some (.int))) (T : ∀ z ∈ (cx_c Γ).exceptionTable.toList, False) (hn : cx_nL Γ = 5) (hR : cx_fr Γ = 9 ∧ cx_lo Γ = 233) (hin : (cx_meth Γ).name = yX7_print.name) : ∀ (n : Nat) (a0 : Nat) (x1 : Int32) (x2 : Int32) (x3 : Int32) (s0 : AS), OK Γ 45 [(0, .ref a0), (1, .int x1), (2, .int x2), (3, .int x3)] [] (fX7_print_45 n a0 x1 x2 x3 s0) s0 := by
  intro n
  induction n with
  | zero => intro _ _ _ _ s0; exact OK.none
  | succ n ih =>
    intro a0 x1 x2 x3 s0
    rw [fX7_print_45]
    refine ok_iload_n C 3 dX7_print_45 rfl ?_
    refine ok_iload_n C 1 dX7_print_46 rfl ?_
    refine ok_icmp_ge C 62 dX7_print_47 (by decide) ?_ ?_
    · refine ok_aload_n C 0 dX7_print_62 rfl ?_
      refine ok_getR C frX7_17_11 dX7_print_63 (fun q1 => ?_)
      refine ok_iconst C (v := 2) dX7_print_66 (by decide) ?_
      refine ok_iald C dX7_print_67 (fun v2 => ?_)
      refine ok_iload_n C 2 dX7_print_68 rfl ?_
      refine ok_isub C dX7_print_69 ?_
      exact ok_ireturn C dX7_print_70
    · refine ok_aload_n C 0 dX7_print_50 rfl ?_
      refine ok_callV C T [] (F := fX7_prints a0) (ctX7_prints (C.2.2.2.2.2.2.2.2.1) a0) vlX7_365 viX7_prints rfl rfl (by decide) rfl (by rw [hR.1, hR.2]; decide) (Nat.le_of_ble_eq_true rfl) dX7_print_51 (ok_qI fun v3 s4 => ?_)
      refine ok_istore C (i := 4) [(4, .int v3), (0, .ref a0), (1, .int x1), (2, .int x2), (3, .int x3)] dX7_print_54 (by rw [hn]; decide) rfl ?_
      refine ok_iincL C 4 (c := 1) (fun v5 => [(3, .int v5), (4, .int v3), (0, .ref a0), (1, .int x1), (2, .int x2)]) dX7_print_56 rfl rfl (by rw [hn]; decide) (fun _ => rfl) (fun v5 => ?_)
      refine ok_goto C 45 dX7_print_59 (by decide) ?_
      refine OK.sub (lv' := [(0, .ref a0), (1, .int x1), (2, .int x2), (3, .int v5)]) [2, 3, 4, 0] rfl ?_
      exact ih a0 x1 x2 v5 s4
set_option maxHeartbeats 4000000 in
theorem oX7_print_23 {Γ : CX} (C : OKC Γ cX7_print RX7 (some (.int))) (T : ∀ z ∈ (cx_c Γ).exceptionTable.toList, False) (hn : cx_nL Γ = 5) (hR : cx_fr Γ = 9 ∧ cx_lo Γ = 233) (hin : (cx_meth Γ).name = yX7_print.name) : ∀ (a0 : Nat) (x1 : Int32) (t0 : Nat) (t1 : Int32) (s0 : AS), OK Γ 23 [(0, .ref a0), (1, .int x1)] [.int t1, .ref t0] (fX7_print_23  a0 x1 t0 t1 s0) s0 := by
  intro a0 x1 t0 t1 s0
  unfold fX7_print_23
  refine ok_iconst C (v := 2) dX7_print_23 (by decide) ?_
  refine ok_callV C T [.int t1, .int 2] (F := fX7_refuse t0 t1 2) (ctX7_refuse (C.2.2.2.2.2.2.2.2.1) t0 t1 2) vlX7_74 viX7_refuse rfl rfl (by decide) rfl (by rw [hR.1, hR.2]; decide) (Nat.le_of_ble_eq_true rfl) dX7_print_24 (ok_qI fun v1 s2 => ?_)
  refine ok_if_eq C 32 dX7_print_27 (by decide) ?_ ?_
  · refine ok_aload_n C 0 dX7_print_32 rfl ?_
    refine ok_callV C T [] (F := fX7_keepsAll a0) (ctX7_keepsAll (C.2.2.2.2.2.2.2.2.1) a0) vlX7_392 viX7_keepsAll rfl rfl (by decide) rfl (by rw [hR.1, hR.2]; decide) (Nat.le_of_ble_eq_true rfl) dX7_print_33 (ok_qV fun s3 => ?_)
    refine ok_aload_n C 0 dX7_print_36 rfl ?_
    refine ok_getR C frX7_17_11 dX7_print_37 (fun q4 => ?_)
    refine ok_iconst C (v := 2) dX7_print_40 (by decide) ?_
    refine ok_iald C dX7_print_41 (fun v5 => ?_)
    refine ok_istore_n C (i := 2) [(2, .int v5), (0, .ref a0), (1, .int x1)] dX7_print_42 rfl (by rw [hn]; decide) rfl ?_
    refine ok_iconst C (v := 0) dX7_print_43 (by decide) ?_
    refine ok_istore_n C (i := 3) [(3, .int 0), (2, .int v5), (0, .ref a0), (1, .int x1)] dX7_print_44 rfl (by rw [hn]; decide) rfl ?_
    refine OK.sub (lv' := [(0, .ref a0), (1, .int x1), (2, .int v5), (3, .int 0)]) [2, 3, 1, 0] rfl ?_
    exact oX7_print_45 C T hn hR hin FU a0 x1 v5 0 s3
  · refine ok_iconst C (v := 0) dX7_print_30 (by decide) ?_
    exact ok_ireturn C dX7_print_31
set_option maxHeartbeats 4000000 in
theorem oX7_print {Γ : CX} (C : OKC Γ cX7_print RX7 (some (.int))) (T : ∀ z ∈ (cx_c Γ).exceptionTable.toList, False) (hn : cx_nL Γ = 5) (hR : cx_fr Γ = 9 ∧ cx_lo Γ = 233) (hin : (cx_meth Γ).name = yX7_print.name) : ∀ (a0 : Nat) (x1 : Int32) (s0 : AS), OK Γ 0 [(0, .ref a0), (1, .int x1)] [] (fX7_print a0 x1 s0) s0 := by
  intro a0 x1 s0
  unfold fX7_print
  refine ok_aload_n C 0 dX7_print_0 rfl ?_
  refine ok_callV C T [] (F := fX7_notLoaded a0) (ctX7_notLoaded (C.2.2.2.2.2.2.2.2.1) a0) vlX7_320 viX7_notLoaded rfl rfl (by decide) rfl (by rw [hR.1, hR.2]; decide) (Nat.le_of_ble_eq_true rfl) dX7_print_1 (ok_qI fun v1 s2 => ?_)
  refine ok_if_ne C 30 dX7_print_4 (by decide) ?_ ?_
  · refine ok_iconst C (v := 0) dX7_print_30 (by decide) ?_
    exact ok_ireturn C dX7_print_31
  · refine ok_aload_n C 0 dX7_print_7 rfl ?_
    refine ok_iload_n C 1 dX7_print_8 rfl ?_
    refine ok_iconst C (v := 1) dX7_print_9 (by decide) ?_
    refine ok_bipush C (v := 100) dX7_print_10 (by decide) ?_
    refine ok_callS C T [.int x1, .int 1, .int 100] (F := fX7_in x1 1 100) (ctX7_in (C.2.2.2.2.2.2.2.2.1) x1 1 100) vlX7_143 kw_793 rfl (by rw [hR.1, hR.2]; decide) (Nat.le_of_ble_eq_true rfl) dX7_print_12 (ok_qI fun v3 s4 => ?_)
    refine ok_if_ne C 22 dX7_print_15 (by decide) ?_ ?_
    · refine ok_iconst C (v := 0) dX7_print_22 (by decide) ?_
      exact oX7_print_23 C T hn hR hin a0 x1 a0 0 s4
    · refine ok_iconst C (v := 1) dX7_print_18 (by decide) ?_
      refine ok_goto C 23 dX7_print_19 (by decide) ?_
      exact oX7_print_23 C T hn hR hin a0 x1 a0 1 s4
theorem ctX7_print {l : Launch} (hl : l.stackTraces = false) {D : va_G} {dA : Nat → ClassId} {B0 : Nat} (a0 : Nat) (x1 : Int32) : Ct l D dA B0 yX7_print (.code yX7_print cX7_print 5 (some (.int)) :: ax_ALL) 9 233 [.ref a0, .int x1] (fX7_print a0 x1) :=
  Ct.of hl (by decide +kernel) (Nat.le_of_ble_eq_true rfl) fun Γ C _ _ _ _ e5 e6 e7 T hin => oX7_print C T e5 ⟨e6, e7⟩ hin a0 x1 _
/-! ChaseLockerModel.rest(I)I -/
def fX7_rest_40  : Nat → Nat → Int32 → Int32 → Int32 → AS → Option AR
  | 0, _, _, _, _, _ => none
  | n + 1, a0, x1, x2, x3, s0 =>
    if x1 ≤ x3 then (
      some (.inl (some (.int x2)), s0))
    else (
      cV s0 a0 11 (fX7_passes a0 s0) (qI (fun v1 s2 =>
      cS s2 (fX7_ones v1 s2) (qI (fun v3 s4 =>
      lt (x2 + v3) (fun v5 =>
      lt (x3 + 1) (fun v6 =>
      fX7_rest_40 n a0 x1 v5 v6 s4)))))))
def fX7_rest_23  (a0 : Nat) (x1 : Int32) (t0 : Nat) (t1 : Int32) (s0 : AS) : Option AR :=
  cV s0 t0 11 (fX7_refuse t0 t1 2 s0) (qI (fun v1 s2 =>
  if v1 = 0 then (
    cV s2 a0 11 (fX7_keepsAll a0 s2) (qV (fun s3 =>
    fX7_rest_40 FU a0 x1 0 0 s3)))
  else (
    some (.inl (some (.int 0)), s2))))
def fX7_rest (a0 : Nat) (x1 : Int32) (s0 : AS) : Option AR :=
  cV s0 a0 11 (fX7_notLoaded a0 s0) (qI (fun v1 s2 =>
  if v1 = 0 then (
    cS s2 (fX7_in x1 1 100 s2) (qI (fun v3 s4 =>
    if v3 = 0 then (
      fX7_rest_23 a0 x1 a0 1 s4)
    else (
      fX7_rest_23 a0 x1 a0 0 s4))))
  else (
    some (.inl (some (.int 0)), s2))))
set_option maxHeartbeats 4000000 in
theorem oX7_rest_40 {Γ : CX} (C : OKC Γ cX7_rest RX7 (some (.int))) (T : ∀ z ∈ (cx_c Γ).exceptionTable.toList, False) (hn : cx_nL Γ = 4) (hR : cx_fr Γ = 9 ∧ cx_lo Γ = 233) (hin : (cx_meth Γ).name = yX7_rest.name) : ∀ (n : Nat) (a0 : Nat) (x1 : Int32) (x2 : Int32) (x3 : Int32) (s0 : AS), OK Γ 40 [(0, .ref a0), (1, .int x1), (2, .int x2), (3, .int x3)] [] (fX7_rest_40 n a0 x1 x2 x3 s0) s0 := by
  intro n
  induction n with
  | zero => intro _ _ _ _ s0; exact OK.none
  | succ n ih =>
    intro a0 x1 x2 x3 s0
    rw [fX7_rest_40]
    refine ok_iload_n C 3 dX7_rest_40 rfl ?_
    refine ok_iload_n C 1 dX7_rest_41 rfl ?_
    refine ok_icmp_ge C 61 dX7_rest_42 (by decide) ?_ ?_
    · refine ok_iload_n C 2 dX7_rest_61 rfl ?_
      exact ok_ireturn C dX7_rest_62
    · refine ok_iload_n C 2 dX7_rest_45 rfl ?_
      refine ok_aload_n C 0 dX7_rest_46 rfl ?_
      refine ok_callV C T [] (F := fX7_passes a0) (ctX7_passes (C.2.2.2.2.2.2.2.2.1) a0) vlX7_362 viX7_passes rfl rfl (by decide) rfl (by rw [hR.1, hR.2]; decide) (Nat.le_of_ble_eq_true rfl) dX7_rest_47 (ok_qI fun v1 s2 => ?_)
      refine ok_callS C T [.int v1] (F := fX7_ones v1) (ctX7_ones (C.2.2.2.2.2.2.2.2.1) v1) vlX7_398 kw_1059 rfl (by rw [hR.1, hR.2]; decide) (Nat.le_of_ble_eq_true rfl) dX7_rest_50 (ok_qI fun v3 s4 => ?_)
      refine ok_iadd C dX7_rest_53 ?_
      refine ok_lt (fun v5 => ?_)
      refine ok_istore_n C (i := 2) [(2, .int v5), (0, .ref a0), (1, .int x1), (3, .int x3)] dX7_rest_54 rfl (by rw [hn]; decide) rfl ?_
      refine ok_iincL C 3 (c := 1) (fun v6 => [(3, .int v6), (2, .int v5), (0, .ref a0), (1, .int x1)]) dX7_rest_55 rfl rfl (by rw [hn]; decide) (fun _ => rfl) (fun v6 => ?_)
      refine ok_goto C 40 dX7_rest_58 (by decide) ?_
      refine OK.sub (lv' := [(0, .ref a0), (1, .int x1), (2, .int v5), (3, .int v6)]) [2, 3, 1, 0] rfl ?_
      exact ih a0 x1 v5 v6 s4
set_option maxHeartbeats 4000000 in
theorem oX7_rest_23 {Γ : CX} (C : OKC Γ cX7_rest RX7 (some (.int))) (T : ∀ z ∈ (cx_c Γ).exceptionTable.toList, False) (hn : cx_nL Γ = 4) (hR : cx_fr Γ = 9 ∧ cx_lo Γ = 233) (hin : (cx_meth Γ).name = yX7_rest.name) : ∀ (a0 : Nat) (x1 : Int32) (t0 : Nat) (t1 : Int32) (s0 : AS), OK Γ 23 [(0, .ref a0), (1, .int x1)] [.int t1, .ref t0] (fX7_rest_23  a0 x1 t0 t1 s0) s0 := by
  intro a0 x1 t0 t1 s0
  unfold fX7_rest_23
  refine ok_iconst C (v := 2) dX7_rest_23 (by decide) ?_
  refine ok_callV C T [.int t1, .int 2] (F := fX7_refuse t0 t1 2) (ctX7_refuse (C.2.2.2.2.2.2.2.2.1) t0 t1 2) vlX7_74 viX7_refuse rfl rfl (by decide) rfl (by rw [hR.1, hR.2]; decide) (Nat.le_of_ble_eq_true rfl) dX7_rest_24 (ok_qI fun v1 s2 => ?_)
  refine ok_if_eq C 32 dX7_rest_27 (by decide) ?_ ?_
  · refine ok_aload_n C 0 dX7_rest_32 rfl ?_
    refine ok_callV C T [] (F := fX7_keepsAll a0) (ctX7_keepsAll (C.2.2.2.2.2.2.2.2.1) a0) vlX7_392 viX7_keepsAll rfl rfl (by decide) rfl (by rw [hR.1, hR.2]; decide) (Nat.le_of_ble_eq_true rfl) dX7_rest_33 (ok_qV fun s3 => ?_)
    refine ok_iconst C (v := 0) dX7_rest_36 (by decide) ?_
    refine ok_istore_n C (i := 2) [(2, .int 0), (0, .ref a0), (1, .int x1)] dX7_rest_37 rfl (by rw [hn]; decide) rfl ?_
    refine ok_iconst C (v := 0) dX7_rest_38 (by decide) ?_
    refine ok_istore_n C (i := 3) [(3, .int 0), (2, .int 0), (0, .ref a0), (1, .int x1)] dX7_rest_39 rfl (by rw [hn]; decide) rfl ?_
    refine OK.sub (lv' := [(0, .ref a0), (1, .int x1), (2, .int 0), (3, .int 0)]) [2, 3, 1, 0] rfl ?_
    exact oX7_rest_40 C T hn hR hin FU a0 x1 0 0 s3
  · refine ok_iconst C (v := 0) dX7_rest_30 (by decide) ?_
    exact ok_ireturn C dX7_rest_31
set_option maxHeartbeats 4000000 in
theorem oX7_rest {Γ : CX} (C : OKC Γ cX7_rest RX7 (some (.int))) (T : ∀ z ∈ (cx_c Γ).exceptionTable.toList, False) (hn : cx_nL Γ = 4) (hR : cx_fr Γ = 9 ∧ cx_lo Γ = 233) (hin : (cx_meth Γ).name = yX7_rest.name) : ∀ (a0 : Nat) (x1 : Int32) (s0 : AS), OK Γ 0 [(0, .ref a0), (1, .int x1)] [] (fX7_rest a0 x1 s0) s0 := by
  intro a0 x1 s0
  unfold fX7_rest
  refine ok_aload_n C 0 dX7_rest_0 rfl ?_
  refine ok_callV C T [] (F := fX7_notLoaded a0) (ctX7_notLoaded (C.2.2.2.2.2.2.2.2.1) a0) vlX7_320 viX7_notLoaded rfl rfl (by decide) rfl (by rw [hR.1, hR.2]; decide) (Nat.le_of_ble_eq_true rfl) dX7_rest_1 (ok_qI fun v1 s2 => ?_)
  refine ok_if_ne C 30 dX7_rest_4 (by decide) ?_ ?_
  · refine ok_iconst C (v := 0) dX7_rest_30 (by decide) ?_
    exact ok_ireturn C dX7_rest_31
  · refine ok_aload_n C 0 dX7_rest_7 rfl ?_
    refine ok_iload_n C 1 dX7_rest_8 rfl ?_
    refine ok_iconst C (v := 1) dX7_rest_9 (by decide) ?_
    refine ok_bipush C (v := 100) dX7_rest_10 (by decide) ?_
    refine ok_callS C T [.int x1, .int 1, .int 100] (F := fX7_in x1 1 100) (ctX7_in (C.2.2.2.2.2.2.2.2.1) x1 1 100) vlX7_143 kw_793 rfl (by rw [hR.1, hR.2]; decide) (Nat.le_of_ble_eq_true rfl) dX7_rest_12 (ok_qI fun v3 s4 => ?_)
    refine ok_if_ne C 22 dX7_rest_15 (by decide) ?_ ?_
    · refine ok_iconst C (v := 0) dX7_rest_22 (by decide) ?_
      exact oX7_rest_23 C T hn hR hin a0 x1 a0 0 s4
    · refine ok_iconst C (v := 1) dX7_rest_18 (by decide) ?_
      refine ok_goto C 23 dX7_rest_19 (by decide) ?_
      exact oX7_rest_23 C T hn hR hin a0 x1 a0 1 s4
theorem ctX7_rest {l : Launch} (hl : l.stackTraces = false) {D : va_G} {dA : Nat → ClassId} {B0 : Nat} (a0 : Nat) (x1 : Int32) : Ct l D dA B0 yX7_rest (.code yX7_rest cX7_rest 4 (some (.int)) :: ax_ALL) 9 233 [.ref a0, .int x1] (fX7_rest a0 x1) :=
  Ct.of hl (by decide +kernel) (Nat.le_of_ble_eq_true rfl) fun Γ C _ _ _ _ e5 e6 e7 T hin => oX7_rest C T e5 ⟨e6, e7⟩ hin a0 x1 _
/-! ChaseLockerModel.buy(II)I -/
def fX7_buy_60  (a0 : Nat) (x1 : Int32) (x2 : Int32) (t0 : Nat) (t1 : Int32) (s0 : AS) : Option AR :=
  cV s0 t0 11 (fX7_refuse t0 t1 3 s0) (qI (fun v1 s2 =>
  if v1 = 0 then (
    cV s2 a0 11 (fX7_keepsAll a0 s2) (qV (fun s3 =>
    gR s3 a0 11 12 (fun q4 =>
    aI s3 q4 100 (6 + x1) (fun v5 =>
    uI s3 q4 (6 + x1) (v5 + x2) (fun s6 =>
    gR s6 a0 11 12 (fun q7 =>
    aI s6 q7 100 (6 + x1) (fun v8 =>
    some (.inl (some (.int v8)), s6)))))))))
  else (
    some (.inl (some (.int 0)), s2))))
def fX7_buy_55  (a0 : Nat) (x1 : Int32) (x2 : Int32) (t0 : Nat) (s0 : AS) : Option AR :=
  fX7_buy_60 a0 x1 x2 t0 1 s0
def fX7_buy_21  (a0 : Nat) (x1 : Int32) (x2 : Int32) (t0 : Nat) (t1 : Int32) (s0 : AS) : Option AR :=
  cV s0 t0 11 (fX7_refuse t0 t1 2 s0) (qI (fun v1 s2 =>
  if v1 = 0 then (
    cS s2 (fX7_in x2 1 99 s2) (qI (fun v3 s4 =>
    if v3 = 0 then (
      fX7_buy_55 a0 x1 x2 a0 s4)
    else (
      gR s4 a0 11 12 (fun q5 =>
      aI s4 q5 100 (6 + x1) (fun v6 =>
      if (v6 + x2) ≤ (99 : Int32) then (
        fX7_buy_60 a0 x1 x2 a0 0 s4)
      else (
        fX7_buy_55 a0 x1 x2 a0 s4)))))))
  else (
    some (.inl (some (.int 0)), s2))))
def fX7_buy (a0 : Nat) (x1 : Int32) (x2 : Int32) (s0 : AS) : Option AR :=
  cV s0 a0 11 (fX7_notLoaded a0 s0) (qI (fun v1 s2 =>
  if v1 = 0 then (
    cV s2 a0 11 (fX7_isKind a0 x1 s2) (qI (fun v3 s4 =>
    if v3 = 0 then (
      fX7_buy_21 a0 x1 x2 a0 1 s4)
    else (
      fX7_buy_21 a0 x1 x2 a0 0 s4))))
  else (
    some (.inl (some (.int 0)), s2))))
set_option maxHeartbeats 4000000 in
theorem oX7_buy_60 {Γ : CX} (C : OKC Γ cX7_buy RX7 (some (.int))) (T : ∀ z ∈ (cx_c Γ).exceptionTable.toList, False) (hn : cx_nL Γ = 3) (hR : cx_fr Γ = 3 ∧ cx_lo Γ = 103) (hin : (cx_meth Γ).name = yX7_buy.name) : ∀ (a0 : Nat) (x1 : Int32) (x2 : Int32) (t0 : Nat) (t1 : Int32) (s0 : AS), OK Γ 60 [(0, .ref a0), (1, .int x1), (2, .int x2)] [.int t1, .ref t0] (fX7_buy_60  a0 x1 x2 t0 t1 s0) s0 := by
  intro a0 x1 x2 t0 t1 s0
  unfold fX7_buy_60
  refine ok_iconst C (v := 3) dX7_buy_60 (by decide) ?_
  refine ok_callV C T [.int t1, .int 3] (F := fX7_refuse t0 t1 3) (ctX7_refuse (C.2.2.2.2.2.2.2.2.1) t0 t1 3) vlX7_74 viX7_refuse rfl rfl (by decide) rfl (by rw [hR.1, hR.2]; decide) (Nat.le_of_ble_eq_true rfl) dX7_buy_61 (ok_qI fun v1 s2 => ?_)
  refine ok_if_eq C 69 dX7_buy_64 (by decide) ?_ ?_
  · refine ok_aload_n C 0 dX7_buy_69 rfl ?_
    refine ok_callV C T [] (F := fX7_keepsAll a0) (ctX7_keepsAll (C.2.2.2.2.2.2.2.2.1) a0) vlX7_392 viX7_keepsAll rfl rfl (by decide) rfl (by rw [hR.1, hR.2]; decide) (Nat.le_of_ble_eq_true rfl) dX7_buy_70 (ok_qV fun s3 => ?_)
    refine ok_aload_n C 0 dX7_buy_73 rfl ?_
    refine ok_getR C frX7_17_11 dX7_buy_74 (fun q4 => ?_)
    refine ok_bipush C (v := 6) dX7_buy_77 (by decide) ?_
    refine ok_iload_n C 1 dX7_buy_79 rfl ?_
    refine ok_iadd C dX7_buy_80 ?_
    refine ok_dup2 C dX7_buy_81 rfl rfl ?_
    refine ok_iald C dX7_buy_82 (fun v5 => ?_)
    refine ok_iload_n C 2 dX7_buy_83 rfl ?_
    refine ok_iadd C dX7_buy_84 ?_
    refine ok_iast C dX7_buy_85 (fun s6 _ => ?_)
    refine ok_aload_n C 0 dX7_buy_86 rfl ?_
    refine ok_getR C frX7_17_11 dX7_buy_87 (fun q7 => ?_)
    refine ok_bipush C (v := 6) dX7_buy_90 (by decide) ?_
    refine ok_iload_n C 1 dX7_buy_92 rfl ?_
    refine ok_iadd C dX7_buy_93 ?_
    refine ok_iald C dX7_buy_94 (fun v8 => ?_)
    exact ok_ireturn C dX7_buy_95
  · refine ok_iconst C (v := 0) dX7_buy_67 (by decide) ?_
    exact ok_ireturn C dX7_buy_68
set_option maxHeartbeats 4000000 in
theorem oX7_buy_55 {Γ : CX} (C : OKC Γ cX7_buy RX7 (some (.int))) (T : ∀ z ∈ (cx_c Γ).exceptionTable.toList, False) (hn : cx_nL Γ = 3) (hR : cx_fr Γ = 3 ∧ cx_lo Γ = 103) (hin : (cx_meth Γ).name = yX7_buy.name) : ∀ (a0 : Nat) (x1 : Int32) (x2 : Int32) (t0 : Nat) (s0 : AS), OK Γ 55 [(0, .ref a0), (1, .int x1), (2, .int x2)] [.ref t0] (fX7_buy_55  a0 x1 x2 t0 s0) s0 := by
  intro a0 x1 x2 t0 s0
  unfold fX7_buy_55
  refine ok_iconst C (v := 1) dX7_buy_55 (by decide) ?_
  refine ok_goto C 60 dX7_buy_56 (by decide) ?_
  exact oX7_buy_60 C T hn hR hin a0 x1 x2 t0 1 s0
set_option maxHeartbeats 4000000 in
theorem oX7_buy_21 {Γ : CX} (C : OKC Γ cX7_buy RX7 (some (.int))) (T : ∀ z ∈ (cx_c Γ).exceptionTable.toList, False) (hn : cx_nL Γ = 3) (hR : cx_fr Γ = 3 ∧ cx_lo Γ = 103) (hin : (cx_meth Γ).name = yX7_buy.name) : ∀ (a0 : Nat) (x1 : Int32) (x2 : Int32) (t0 : Nat) (t1 : Int32) (s0 : AS), OK Γ 21 [(0, .ref a0), (1, .int x1), (2, .int x2)] [.int t1, .ref t0] (fX7_buy_21  a0 x1 x2 t0 t1 s0) s0 := by
  intro a0 x1 x2 t0 t1 s0
  unfold fX7_buy_21
  refine ok_iconst C (v := 2) dX7_buy_21 (by decide) ?_
  refine ok_callV C T [.int t1, .int 2] (F := fX7_refuse t0 t1 2) (ctX7_refuse (C.2.2.2.2.2.2.2.2.1) t0 t1 2) vlX7_74 viX7_refuse rfl rfl (by decide) rfl (by rw [hR.1, hR.2]; decide) (Nat.le_of_ble_eq_true rfl) dX7_buy_22 (ok_qI fun v1 s2 => ?_)
  refine ok_if_ne C 67 dX7_buy_25 (by decide) ?_ ?_
  · refine ok_iconst C (v := 0) dX7_buy_67 (by decide) ?_
    exact ok_ireturn C dX7_buy_68
  · refine ok_aload_n C 0 dX7_buy_28 rfl ?_
    refine ok_iload_n C 2 dX7_buy_29 rfl ?_
    refine ok_iconst C (v := 1) dX7_buy_30 (by decide) ?_
    refine ok_bipush C (v := 99) dX7_buy_31 (by decide) ?_
    refine ok_callS C T [.int x2, .int 1, .int 99] (F := fX7_in x2 1 99) (ctX7_in (C.2.2.2.2.2.2.2.2.1) x2 1 99) vlX7_143 kw_793 rfl (by rw [hR.1, hR.2]; decide) (Nat.le_of_ble_eq_true rfl) dX7_buy_33 (ok_qI fun v3 s4 => ?_)
    refine ok_if_eq C 55 dX7_buy_36 (by decide) ?_ ?_
    · exact oX7_buy_55 C T hn hR hin a0 x1 x2 a0 s4
    · refine ok_aload_n C 0 dX7_buy_39 rfl ?_
      refine ok_getR C frX7_17_11 dX7_buy_40 (fun q5 => ?_)
      refine ok_bipush C (v := 6) dX7_buy_43 (by decide) ?_
      refine ok_iload_n C 1 dX7_buy_45 rfl ?_
      refine ok_iadd C dX7_buy_46 ?_
      refine ok_iald C dX7_buy_47 (fun v6 => ?_)
      refine ok_iload_n C 2 dX7_buy_48 rfl ?_
      refine ok_iadd C dX7_buy_49 ?_
      refine ok_bipush C (v := 99) dX7_buy_50 (by decide) ?_
      refine ok_icmp_le C 59 dX7_buy_52 (by decide) ?_ ?_
      · refine ok_iconst C (v := 0) dX7_buy_59 (by decide) ?_
        exact oX7_buy_60 C T hn hR hin a0 x1 x2 a0 0 s4
      · exact oX7_buy_55 C T hn hR hin a0 x1 x2 a0 s4
set_option maxHeartbeats 4000000 in
theorem oX7_buy {Γ : CX} (C : OKC Γ cX7_buy RX7 (some (.int))) (T : ∀ z ∈ (cx_c Γ).exceptionTable.toList, False) (hn : cx_nL Γ = 3) (hR : cx_fr Γ = 3 ∧ cx_lo Γ = 103) (hin : (cx_meth Γ).name = yX7_buy.name) : ∀ (a0 : Nat) (x1 : Int32) (x2 : Int32) (s0 : AS), OK Γ 0 [(0, .ref a0), (1, .int x1), (2, .int x2)] [] (fX7_buy a0 x1 x2 s0) s0 := by
  intro a0 x1 x2 s0
  unfold fX7_buy
  refine ok_aload_n C 0 dX7_buy_0 rfl ?_
  refine ok_callV C T [] (F := fX7_notLoaded a0) (ctX7_notLoaded (C.2.2.2.2.2.2.2.2.1) a0) vlX7_320 viX7_notLoaded rfl rfl (by decide) rfl (by rw [hR.1, hR.2]; decide) (Nat.le_of_ble_eq_true rfl) dX7_buy_1 (ok_qI fun v1 s2 => ?_)
  refine ok_if_ne C 67 dX7_buy_4 (by decide) ?_ ?_
  · refine ok_iconst C (v := 0) dX7_buy_67 (by decide) ?_
    exact ok_ireturn C dX7_buy_68
  · refine ok_aload_n C 0 dX7_buy_7 rfl ?_
    refine ok_aload_n C 0 dX7_buy_8 rfl ?_
    refine ok_iload_n C 1 dX7_buy_9 rfl ?_
    refine ok_callV C T [.int x1] (F := fX7_isKind a0 x1) (ctX7_isKind (C.2.2.2.2.2.2.2.2.1) a0 x1) vlX7_338 viX7_isKind rfl rfl (by decide) rfl (by rw [hR.1, hR.2]; decide) (Nat.le_of_ble_eq_true rfl) dX7_buy_10 (ok_qI fun v3 s4 => ?_)
    refine ok_if_ne C 20 dX7_buy_13 (by decide) ?_ ?_
    · refine ok_iconst C (v := 0) dX7_buy_20 (by decide) ?_
      exact oX7_buy_21 C T hn hR hin a0 x1 x2 a0 0 s4
    · refine ok_iconst C (v := 1) dX7_buy_16 (by decide) ?_
      refine ok_goto C 21 dX7_buy_17 (by decide) ?_
      exact oX7_buy_21 C T hn hR hin a0 x1 x2 a0 1 s4
theorem ctX7_buy {l : Launch} (hl : l.stackTraces = false) {D : va_G} {dA : Nat → ClassId} {B0 : Nat} (a0 : Nat) (x1 : Int32) (x2 : Int32) : Ct l D dA B0 yX7_buy (.code yX7_buy cX7_buy 3 (some (.int)) :: ax_ALL) 3 103 [.ref a0, .int x1, .int x2] (fX7_buy a0 x1 x2) :=
  Ct.of hl (by decide +kernel) (Nat.le_of_ble_eq_true rfl) fun Γ C _ _ _ _ e5 e6 e7 T hin => oX7_buy C T e5 ⟨e6, e7⟩ hin a0 x1 x2 _
/-! ChaseLockerModel.undo()I -/
def fX7_undo_18  (a0 : Nat) (t0 : Nat) (t1 : Int32) (s0 : AS) : Option AR :=
  cV s0 t0 11 (fX7_refuse t0 t1 1 s0) (qI (fun v1 s2 =>
  if v1 = 0 then (
    gI s2 a0 11 15 (fun v3 =>
    sI s2 a0 11 15 (v3 - 1) (fun s4 =>
    gI s4 a0 11 15 (fun v5 =>
    cV s4 a0 11 (fX7_fetches a0 (0 + v5) s4) (qV (fun s6 =>
    gI s6 a0 11 15 (fun v7 =>
    some (.inl (some (.int v7)), s6))))))))
  else (
    some (.inl (some (.int 0)), s2))))
def fX7_undo (a0 : Nat) (s0 : AS) : Option AR :=
  sI s0 a0 11 0 0 (fun s1 =>
  gI s1 a0 11 15 (fun v2 =>
  if v2 = 0 then (
    fX7_undo_18 a0 a0 1 s1)
  else (
    fX7_undo_18 a0 a0 0 s1)))
set_option maxHeartbeats 4000000 in
theorem oX7_undo_18 {Γ : CX} (C : OKC Γ cX7_undo RX7 (some (.int))) (T : ∀ z ∈ (cx_c Γ).exceptionTable.toList, False) (hn : cx_nL Γ = 1) (hR : cx_fr Γ = 2 ∧ cx_lo Γ = 82) (hin : (cx_meth Γ).name = yX7_undo.name) : ∀ (a0 : Nat) (t0 : Nat) (t1 : Int32) (s0 : AS), OK Γ 18 [(0, .ref a0)] [.int t1, .ref t0] (fX7_undo_18  a0 t0 t1 s0) s0 := by
  intro a0 t0 t1 s0
  unfold fX7_undo_18
  refine ok_iconst C (v := 1) dX7_undo_18 (by decide) ?_
  refine ok_callV C T [.int t1, .int 1] (F := fX7_refuse t0 t1 1) (ctX7_refuse (C.2.2.2.2.2.2.2.2.1) t0 t1 1) vlX7_74 viX7_refuse rfl rfl (by decide) rfl (by rw [hR.1, hR.2]; decide) (Nat.le_of_ble_eq_true rfl) dX7_undo_19 (ok_qI fun v1 s2 => ?_)
  refine ok_if_eq C 27 dX7_undo_22 (by decide) ?_ ?_
  · refine ok_aload_n C 0 dX7_undo_27 rfl ?_
    refine ok_dup C dX7_undo_28 rfl ?_
    refine ok_getI C frX7_235_11 dX7_undo_29 (fun v3 => ?_)
    refine ok_iconst C (v := 1) dX7_undo_32 (by decide) ?_
    refine ok_isub C dX7_undo_33 ?_
    refine ok_putI C flX7_235_11 dX7_undo_34 (fun s4 _ => ?_)
    refine ok_aload_n C 0 dX7_undo_37 rfl ?_
    refine ok_iconst C (v := 0) dX7_undo_38 (by decide) ?_
    refine ok_aload_n C 0 dX7_undo_39 rfl ?_
    refine ok_getI C frX7_235_11 dX7_undo_40 (fun v5 => ?_)
    refine ok_iadd C dX7_undo_43 ?_
    refine ok_callV C T [.int (0 + v5)] (F := fX7_fetches a0 (0 + v5)) (ctX7_fetches (C.2.2.2.2.2.2.2.2.1) a0 (0 + v5)) vlX7_401 viX7_fetches rfl rfl (by decide) rfl (by rw [hR.1, hR.2]; decide) (Nat.le_of_ble_eq_true rfl) dX7_undo_44 (ok_qV fun s6 => ?_)
    refine ok_aload_n C 0 dX7_undo_47 rfl ?_
    refine ok_getI C frX7_235_11 dX7_undo_48 (fun v7 => ?_)
    exact ok_ireturn C dX7_undo_51
  · refine ok_iconst C (v := 0) dX7_undo_25 (by decide) ?_
    exact ok_ireturn C dX7_undo_26
set_option maxHeartbeats 4000000 in
theorem oX7_undo {Γ : CX} (C : OKC Γ cX7_undo RX7 (some (.int))) (T : ∀ z ∈ (cx_c Γ).exceptionTable.toList, False) (hn : cx_nL Γ = 1) (hR : cx_fr Γ = 2 ∧ cx_lo Γ = 82) (hin : (cx_meth Γ).name = yX7_undo.name) : ∀ (a0 : Nat) (s0 : AS), OK Γ 0 [(0, .ref a0)] [] (fX7_undo a0 s0) s0 := by
  intro a0 s0
  unfold fX7_undo
  refine ok_aload_n C 0 dX7_undo_0 rfl ?_
  refine ok_iconst C (v := 0) dX7_undo_1 (by decide) ?_
  refine ok_putI C flX7_67_11 dX7_undo_2 (fun s1 _ => ?_)
  refine ok_aload_n C 0 dX7_undo_5 rfl ?_
  refine ok_aload_n C 0 dX7_undo_6 rfl ?_
  refine ok_getI C frX7_235_11 dX7_undo_7 (fun v2 => ?_)
  refine ok_if_ne C 17 dX7_undo_10 (by decide) ?_ ?_
  · refine ok_iconst C (v := 0) dX7_undo_17 (by decide) ?_
    exact oX7_undo_18 C T hn hR hin a0 a0 0 s1
  · refine ok_iconst C (v := 1) dX7_undo_13 (by decide) ?_
    refine ok_goto C 18 dX7_undo_14 (by decide) ?_
    exact oX7_undo_18 C T hn hR hin a0 a0 1 s1
theorem ctX7_undo {l : Launch} (hl : l.stackTraces = false) {D : va_G} {dA : Nat → ClassId} {B0 : Nat} (a0 : Nat) : Ct l D dA B0 yX7_undo (.code yX7_undo cX7_undo 1 (some (.int)) :: ax_ALL) 2 82 [.ref a0] (fX7_undo a0) :=
  Ct.of hl (by decide +kernel) (Nat.le_of_ble_eq_true rfl) fun Γ C _ _ _ _ e5 e6 e7 T hin => oX7_undo C T e5 ⟨e6, e7⟩ hin a0 _
/-! ChaseLockerModel.undoable()I -/
def fX7_undoable (a0 : Nat) (s0 : AS) : Option AR :=
  sI s0 a0 11 0 0 (fun s1 =>
  gI s1 a0 11 15 (fun v2 =>
  some (.inl (some (.int v2)), s1)))
set_option maxHeartbeats 4000000 in
theorem oX7_undoable {Γ : CX} (C : OKC Γ cX7_undoable RX7 (some (.int))) (T : ∀ z ∈ (cx_c Γ).exceptionTable.toList, False) (hn : cx_nL Γ = 1) (hR : cx_fr Γ = 1 ∧ cx_lo Γ = 60) (hin : (cx_meth Γ).name = yX7_undoable.name) : ∀ (a0 : Nat) (s0 : AS), OK Γ 0 [(0, .ref a0)] [] (fX7_undoable a0 s0) s0 := by
  intro a0 s0
  unfold fX7_undoable
  refine ok_aload_n C 0 dX7_undoable_0 rfl ?_
  refine ok_iconst C (v := 0) dX7_undoable_1 (by decide) ?_
  refine ok_putI C flX7_67_11 dX7_undoable_2 (fun s1 _ => ?_)
  refine ok_aload_n C 0 dX7_undoable_5 rfl ?_
  refine ok_getI C frX7_235_11 dX7_undoable_6 (fun v2 => ?_)
  exact ok_ireturn C dX7_undoable_9
theorem ctX7_undoable {l : Launch} (hl : l.stackTraces = false) {D : va_G} {dA : Nat → ClassId} {B0 : Nat} (a0 : Nat) : Ct l D dA B0 yX7_undoable (.code yX7_undoable cX7_undoable 1 (some (.int)) :: ax_ALL) 1 60 [.ref a0] (fX7_undoable a0) :=
  Ct.of hl (by decide +kernel) (Nat.le_of_ble_eq_true rfl) fun Γ C _ _ _ _ e5 e6 e7 T hin => oX7_undoable C T e5 ⟨e6, e7⟩ hin a0 _
/-! ChaseLockerModel.save(I)I -/
def fX7_save_22  (a0 : Nat) (x1 : Int32) (t0 : Nat) (t1 : Int32) (s0 : AS) : Option AR :=
  cV s0 t0 11 (fX7_refuse t0 t1 2 s0) (qI (fun v1 s2 =>
  if v1 = 0 then (
    cV s2 a0 11 (fX7_keeps a0 (8 + x1) s2) (qV (fun s3 =>
    gR s3 a0 11 16 (fun q4 =>
    uN 101 .boolean s3 q4 x1 1 (fun s5 =>
    gR s5 a0 11 12 (fun q6 =>
    aI s5 q6 100 1 (fun v7 =>
    some (.inl (some (.int v7)), s5))))))))
  else (
    some (.inl (some (.int 0)), s2))))
def fX7_save (a0 : Nat) (x1 : Int32) (s0 : AS) : Option AR :=
  cV s0 a0 11 (fX7_notLoaded a0 s0) (qI (fun v1 s2 =>
  if v1 = 0 then (
    cS s2 (fX7_in x1 0 1 s2) (qI (fun v3 s4 =>
    if v3 = 0 then (
      fX7_save_22 a0 x1 a0 1 s4)
    else (
      fX7_save_22 a0 x1 a0 0 s4))))
  else (
    some (.inl (some (.int 0)), s2))))
set_option maxHeartbeats 4000000 in
theorem oX7_save_22 {Γ : CX} (C : OKC Γ cX7_save RX7 (some (.int))) (T : ∀ z ∈ (cx_c Γ).exceptionTable.toList, False) (hn : cx_nL Γ = 2) (hR : cx_fr Γ = 3 ∧ cx_lo Γ = 102) (hin : (cx_meth Γ).name = yX7_save.name) : ∀ (a0 : Nat) (x1 : Int32) (t0 : Nat) (t1 : Int32) (s0 : AS), OK Γ 22 [(0, .ref a0), (1, .int x1)] [.int t1, .ref t0] (fX7_save_22  a0 x1 t0 t1 s0) s0 := by
  intro a0 x1 t0 t1 s0
  unfold fX7_save_22
  refine ok_iconst C (v := 2) dX7_save_22 (by decide) ?_
  refine ok_callV C T [.int t1, .int 2] (F := fX7_refuse t0 t1 2) (ctX7_refuse (C.2.2.2.2.2.2.2.2.1) t0 t1 2) vlX7_74 viX7_refuse rfl rfl (by decide) rfl (by rw [hR.1, hR.2]; decide) (Nat.le_of_ble_eq_true rfl) dX7_save_23 (ok_qI fun v1 s2 => ?_)
  refine ok_if_eq C 31 dX7_save_26 (by decide) ?_ ?_
  · refine ok_aload_n C 0 dX7_save_31 rfl ?_
    refine ok_bipush C (v := 8) dX7_save_32 (by decide) ?_
    refine ok_iload_n C 1 dX7_save_34 rfl ?_
    refine ok_iadd C dX7_save_35 ?_
    refine ok_callV C T [.int (8 + x1)] (F := fX7_keeps a0 (8 + x1)) (ctX7_keeps (C.2.2.2.2.2.2.2.2.1) a0 (8 + x1)) vlX7_389 viX7_keeps rfl rfl (by decide) rfl (by rw [hR.1, hR.2]; decide) (Nat.le_of_ble_eq_true rfl) dX7_save_36 (ok_qV fun s3 => ?_)
    refine ok_aload_n C 0 dX7_save_39 rfl ?_
    refine ok_getR C frX7_27_11 dX7_save_40 (fun q4 => ?_)
    refine ok_iload_n C 1 dX7_save_43 rfl ?_
    refine ok_iconst C (v := 1) dX7_save_44 (by decide) ?_
    refine ok_zast C dX7_save_45 (fun s5 _ => ?_)
    refine ok_aload_n C 0 dX7_save_46 rfl ?_
    refine ok_getR C frX7_17_11 dX7_save_47 (fun q6 => ?_)
    refine ok_iconst C (v := 1) dX7_save_50 (by decide) ?_
    refine ok_iald C dX7_save_51 (fun v7 => ?_)
    exact ok_ireturn C dX7_save_52
  · refine ok_iconst C (v := 0) dX7_save_29 (by decide) ?_
    exact ok_ireturn C dX7_save_30
set_option maxHeartbeats 4000000 in
theorem oX7_save {Γ : CX} (C : OKC Γ cX7_save RX7 (some (.int))) (T : ∀ z ∈ (cx_c Γ).exceptionTable.toList, False) (hn : cx_nL Γ = 2) (hR : cx_fr Γ = 3 ∧ cx_lo Γ = 102) (hin : (cx_meth Γ).name = yX7_save.name) : ∀ (a0 : Nat) (x1 : Int32) (s0 : AS), OK Γ 0 [(0, .ref a0), (1, .int x1)] [] (fX7_save a0 x1 s0) s0 := by
  intro a0 x1 s0
  unfold fX7_save
  refine ok_aload_n C 0 dX7_save_0 rfl ?_
  refine ok_callV C T [] (F := fX7_notLoaded a0) (ctX7_notLoaded (C.2.2.2.2.2.2.2.2.1) a0) vlX7_320 viX7_notLoaded rfl rfl (by decide) rfl (by rw [hR.1, hR.2]; decide) (Nat.le_of_ble_eq_true rfl) dX7_save_1 (ok_qI fun v1 s2 => ?_)
  refine ok_if_ne C 29 dX7_save_4 (by decide) ?_ ?_
  · refine ok_iconst C (v := 0) dX7_save_29 (by decide) ?_
    exact ok_ireturn C dX7_save_30
  · refine ok_aload_n C 0 dX7_save_7 rfl ?_
    refine ok_iload_n C 1 dX7_save_8 rfl ?_
    refine ok_iconst C (v := 0) dX7_save_9 (by decide) ?_
    refine ok_iconst C (v := 1) dX7_save_10 (by decide) ?_
    refine ok_callS C T [.int x1, .int 0, .int 1] (F := fX7_in x1 0 1) (ctX7_in (C.2.2.2.2.2.2.2.2.1) x1 0 1) vlX7_143 kw_793 rfl (by rw [hR.1, hR.2]; decide) (Nat.le_of_ble_eq_true rfl) dX7_save_11 (ok_qI fun v3 s4 => ?_)
    refine ok_if_ne C 21 dX7_save_14 (by decide) ?_ ?_
    · refine ok_iconst C (v := 0) dX7_save_21 (by decide) ?_
      exact oX7_save_22 C T hn hR hin a0 x1 a0 0 s4
    · refine ok_iconst C (v := 1) dX7_save_17 (by decide) ?_
      refine ok_goto C 22 dX7_save_18 (by decide) ?_
      exact oX7_save_22 C T hn hR hin a0 x1 a0 1 s4
theorem ctX7_save {l : Launch} (hl : l.stackTraces = false) {D : va_G} {dA : Nat → ClassId} {B0 : Nat} (a0 : Nat) (x1 : Int32) : Ct l D dA B0 yX7_save (.code yX7_save cX7_save 2 (some (.int)) :: ax_ALL) 3 102 [.ref a0, .int x1] (fX7_save a0 x1) :=
  Ct.of hl (by decide +kernel) (Nat.le_of_ble_eq_true rfl) fun Γ C _ _ _ _ e5 e6 e7 T hin => oX7_save C T e5 ⟨e6, e7⟩ hin a0 x1 _
/-! ChaseLockerModel.restore(I)I -/
def fX7_restore_42  (a0 : Nat) (x1 : Int32) (t0 : Nat) (t1 : Int32) (s0 : AS) : Option AR :=
  cV s0 t0 11 (fX7_refuse t0 t1 2 s0) (qI (fun v1 s2 =>
  if v1 = 0 then (
    cV s2 a0 11 (fX7_fetches a0 (8 + x1) s2) (qV (fun s3 =>
    sI s3 a0 11 15 0 (fun s4 =>
    gR s4 a0 11 12 (fun q5 =>
    aI s4 q5 100 1 (fun v6 =>
    some (.inl (some (.int v6)), s4)))))))
  else (
    some (.inl (some (.int 0)), s2))))
def fX7_restore_20  (a0 : Nat) (x1 : Int32) (t0 : Nat) (t1 : Int32) (s0 : AS) : Option AR :=
  cV s0 t0 11 (fX7_refuse t0 t1 1 s0) (qI (fun v1 s2 =>
  if v1 = 0 then (
    gR s2 a0 11 16 (fun q3 =>
    aI s2 q3 101 x1 (fun v4 =>
    if v4 = 0 then (
      fX7_restore_42 a0 x1 a0 1 s2)
    else (
      fX7_restore_42 a0 x1 a0 0 s2))))
  else (
    some (.inl (some (.int 0)), s2))))
def fX7_restore (a0 : Nat) (x1 : Int32) (s0 : AS) : Option AR :=
  sI s0 a0 11 0 0 (fun s1 =>
  cS s1 (fX7_in x1 0 1 s1) (qI (fun v2 s3 =>
  if v2 = 0 then (
    fX7_restore_20 a0 x1 a0 1 s3)
  else (
    fX7_restore_20 a0 x1 a0 0 s3))))
set_option maxHeartbeats 4000000 in
theorem oX7_restore_42 {Γ : CX} (C : OKC Γ cX7_restore RX7 (some (.int))) (T : ∀ z ∈ (cx_c Γ).exceptionTable.toList, False) (hn : cx_nL Γ = 2) (hR : cx_fr Γ = 2 ∧ cx_lo Γ = 82) (hin : (cx_meth Γ).name = yX7_restore.name) : ∀ (a0 : Nat) (x1 : Int32) (t0 : Nat) (t1 : Int32) (s0 : AS), OK Γ 42 [(0, .ref a0), (1, .int x1)] [.int t1, .ref t0] (fX7_restore_42  a0 x1 t0 t1 s0) s0 := by
  intro a0 x1 t0 t1 s0
  unfold fX7_restore_42
  refine ok_iconst C (v := 2) dX7_restore_42 (by decide) ?_
  refine ok_callV C T [.int t1, .int 2] (F := fX7_refuse t0 t1 2) (ctX7_refuse (C.2.2.2.2.2.2.2.2.1) t0 t1 2) vlX7_74 viX7_refuse rfl rfl (by decide) rfl (by rw [hR.1, hR.2]; decide) (Nat.le_of_ble_eq_true rfl) dX7_restore_43 (ok_qI fun v1 s2 => ?_)
  refine ok_if_eq C 51 dX7_restore_46 (by decide) ?_ ?_
  · refine ok_aload_n C 0 dX7_restore_51 rfl ?_
    refine ok_bipush C (v := 8) dX7_restore_52 (by decide) ?_
    refine ok_iload_n C 1 dX7_restore_54 rfl ?_
    refine ok_iadd C dX7_restore_55 ?_
    refine ok_callV C T [.int (8 + x1)] (F := fX7_fetches a0 (8 + x1)) (ctX7_fetches (C.2.2.2.2.2.2.2.2.1) a0 (8 + x1)) vlX7_401 viX7_fetches rfl rfl (by decide) rfl (by rw [hR.1, hR.2]; decide) (Nat.le_of_ble_eq_true rfl) dX7_restore_56 (ok_qV fun s3 => ?_)
    refine ok_aload_n C 0 dX7_restore_59 rfl ?_
    refine ok_iconst C (v := 0) dX7_restore_60 (by decide) ?_
    refine ok_putI C flX7_235_11 dX7_restore_61 (fun s4 _ => ?_)
    refine ok_aload_n C 0 dX7_restore_64 rfl ?_
    refine ok_getR C frX7_17_11 dX7_restore_65 (fun q5 => ?_)
    refine ok_iconst C (v := 1) dX7_restore_68 (by decide) ?_
    refine ok_iald C dX7_restore_69 (fun v6 => ?_)
    exact ok_ireturn C dX7_restore_70
  · refine ok_iconst C (v := 0) dX7_restore_49 (by decide) ?_
    exact ok_ireturn C dX7_restore_50
set_option maxHeartbeats 4000000 in
theorem oX7_restore_20 {Γ : CX} (C : OKC Γ cX7_restore RX7 (some (.int))) (T : ∀ z ∈ (cx_c Γ).exceptionTable.toList, False) (hn : cx_nL Γ = 2) (hR : cx_fr Γ = 2 ∧ cx_lo Γ = 82) (hin : (cx_meth Γ).name = yX7_restore.name) : ∀ (a0 : Nat) (x1 : Int32) (t0 : Nat) (t1 : Int32) (s0 : AS), OK Γ 20 [(0, .ref a0), (1, .int x1)] [.int t1, .ref t0] (fX7_restore_20  a0 x1 t0 t1 s0) s0 := by
  intro a0 x1 t0 t1 s0
  unfold fX7_restore_20
  refine ok_iconst C (v := 1) dX7_restore_20 (by decide) ?_
  refine ok_callV C T [.int t1, .int 1] (F := fX7_refuse t0 t1 1) (ctX7_refuse (C.2.2.2.2.2.2.2.2.1) t0 t1 1) vlX7_74 viX7_refuse rfl rfl (by decide) rfl (by rw [hR.1, hR.2]; decide) (Nat.le_of_ble_eq_true rfl) dX7_restore_21 (ok_qI fun v1 s2 => ?_)
  refine ok_if_ne C 49 dX7_restore_24 (by decide) ?_ ?_
  · refine ok_iconst C (v := 0) dX7_restore_49 (by decide) ?_
    exact ok_ireturn C dX7_restore_50
  · refine ok_aload_n C 0 dX7_restore_27 rfl ?_
    refine ok_aload_n C 0 dX7_restore_28 rfl ?_
    refine ok_getR C frX7_27_11 dX7_restore_29 (fun q3 => ?_)
    refine ok_iload_n C 1 dX7_restore_32 rfl ?_
    refine ok_zald C dX7_restore_33 (fun v4 => ?_)
    refine ok_if_ne C 41 dX7_restore_34 (by decide) ?_ ?_
    · refine ok_iconst C (v := 0) dX7_restore_41 (by decide) ?_
      exact oX7_restore_42 C T hn hR hin a0 x1 a0 0 s2
    · refine ok_iconst C (v := 1) dX7_restore_37 (by decide) ?_
      refine ok_goto C 42 dX7_restore_38 (by decide) ?_
      exact oX7_restore_42 C T hn hR hin a0 x1 a0 1 s2
set_option maxHeartbeats 4000000 in
theorem oX7_restore {Γ : CX} (C : OKC Γ cX7_restore RX7 (some (.int))) (T : ∀ z ∈ (cx_c Γ).exceptionTable.toList, False) (hn : cx_nL Γ = 2) (hR : cx_fr Γ = 2 ∧ cx_lo Γ = 82) (hin : (cx_meth Γ).name = yX7_restore.name) : ∀ (a0 : Nat) (x1 : Int32) (s0 : AS), OK Γ 0 [(0, .ref a0), (1, .int x1)] [] (fX7_restore a0 x1 s0) s0 := by
  intro a0 x1 s0
  unfold fX7_restore
  refine ok_aload_n C 0 dX7_restore_0 rfl ?_
  refine ok_iconst C (v := 0) dX7_restore_1 (by decide) ?_
  refine ok_putI C flX7_67_11 dX7_restore_2 (fun s1 _ => ?_)
  refine ok_aload_n C 0 dX7_restore_5 rfl ?_
  refine ok_iload_n C 1 dX7_restore_6 rfl ?_
  refine ok_iconst C (v := 0) dX7_restore_7 (by decide) ?_
  refine ok_iconst C (v := 1) dX7_restore_8 (by decide) ?_
  refine ok_callS C T [.int x1, .int 0, .int 1] (F := fX7_in x1 0 1) (ctX7_in (C.2.2.2.2.2.2.2.2.1) x1 0 1) vlX7_143 kw_793 rfl (by rw [hR.1, hR.2]; decide) (Nat.le_of_ble_eq_true rfl) dX7_restore_9 (ok_qI fun v2 s3 => ?_)
  refine ok_if_ne C 19 dX7_restore_12 (by decide) ?_ ?_
  · refine ok_iconst C (v := 0) dX7_restore_19 (by decide) ?_
    exact oX7_restore_20 C T hn hR hin a0 x1 a0 0 s3
  · refine ok_iconst C (v := 1) dX7_restore_15 (by decide) ?_
    refine ok_goto C 20 dX7_restore_16 (by decide) ?_
    exact oX7_restore_20 C T hn hR hin a0 x1 a0 1 s3
theorem ctX7_restore {l : Launch} (hl : l.stackTraces = false) {D : va_G} {dA : Nat → ClassId} {B0 : Nat} (a0 : Nat) (x1 : Int32) : Ct l D dA B0 yX7_restore (.code yX7_restore cX7_restore 2 (some (.int)) :: ax_ALL) 2 82 [.ref a0, .int x1] (fX7_restore a0 x1) :=
  Ct.of hl (by decide +kernel) (Nat.le_of_ble_eq_true rfl) fun Γ C _ _ _ _ e5 e6 e7 T hin => oX7_restore C T e5 ⟨e6, e7⟩ hin a0 x1 _
