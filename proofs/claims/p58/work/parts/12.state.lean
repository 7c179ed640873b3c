/-! ChaseLocker$State.<init>()V -/
def fX5_init_23  : Nat → Nat → Int32 → AS → Option AR
  | 0, _, _, _ => none
  | n + 1, a0, x1, s0 =>
    if (8 : Int32) ≤ x1 then (
      some (.inl none, s0))
    else (
      gR s0 a0 9 0 (fun q1 =>
      nO s0 7 10 (fun q2 s3 =>
      cS s3 (fX3_init q2 s3) (qV (fun s4 =>
      uR s4 q1 111 7 x1 q2 (fun s5 =>
      lt (x1 + 1) (fun v6 =>
      fX5_init_23 n a0 v6 s5)))))))
def fX5_init (a0 : Nat) (s0 : AS) : Option AR :=
  nA s0 111 8 (fun q1 s2 =>
  sR s2 a0 9 0 q1 (fun s3 =>
  nA s3 100 10 (fun q4 s5 =>
  sR s5 a0 9 1 q4 (fun s6 =>
  fX5_init_23 FU a0 0 s6))))
set_option maxHeartbeats 4000000 in
theorem oX5_init_23 {Γ : CX} (C : OKC Γ cX5_init RX5 none) (T : ∀ z ∈ (cx_c Γ).exceptionTable.toList, False) (hn : cx_nL Γ = 2) (hR : cx_fr Γ = 3 ∧ cx_lo Γ = 80) (hin : (cx_meth Γ).name = yX5_init.name) : ∀ (n : Nat) (a0 : Nat) (x1 : Int32) (s0 : AS), OK Γ 23 [(0, .ref a0), (1, .int x1)] [] (fX5_init_23 n a0 x1 s0) s0 := by
  intro n
  induction n with
  | zero => intro _ _ s0; exact OK.none
  | succ n ih =>
    intro a0 x1 s0
    rw [fX5_init_23]
    refine ok_iload_n C 1 dX5_init_23 rfl ?_
    refine ok_bipush C (v := 8) dX5_init_24 (by decide) ?_
    refine ok_icmp_ge C 48 dX5_init_26 (by decide) ?_ ?_
    · exact ok_vreturn C dX5_init_48
    · refine ok_aload_n C 0 dX5_init_29 rfl ?_
      refine ok_getR C frX5_11_9 dX5_init_30 (fun q1 => ?_)
      refine ok_iload_n C 1 dX5_init_33 rfl ?_
      refine ok_new C (C0 := RX3) ax_DF7 ⟨_, rfl⟩ kw_206 dX5_init_34 (fun q2 s3 => ?_)
      refine ok_dup C dX5_init_37 rfl ?_
      refine ok_callIN C T [] (F := fX3_init q2) (ctX3_init (C.2.2.2.2.2.2.2.2.1) q2) nlX5_21 kw_210 rfl rfl (by rw [hR.1, hR.2]; decide) (Nat.le_of_ble_eq_true rfl) dX5_init_38 (ok_qV fun s4 => ?_)
      refine ok_aast C 111 7 7 (fun _ => rfl) (by decide) rfl (by decide) dX5_init_41 (fun s5 => ?_)
      refine ok_iincL C 1 (c := 1) (fun v6 => [(1, .int v6), (0, .ref a0)]) dX5_init_42 rfl rfl (by rw [hn]; decide) (fun _ => rfl) (fun v6 => ?_)
      refine ok_goto C 23 dX5_init_45 (by decide) ?_
      refine OK.sub (lv' := [(0, .ref a0), (1, .int v6)]) [1, 0] rfl ?_
      exact ih a0 v6 s5
set_option maxHeartbeats 4000000 in
theorem oX5_init {Γ : CX} (C : OKC Γ cX5_init RX5 none) (T : ∀ z ∈ (cx_c Γ).exceptionTable.toList, False) (hn : cx_nL Γ = 2) (hR : cx_fr Γ = 3 ∧ cx_lo Γ = 80) (hin : (cx_meth Γ).name = yX5_init.name) : ∀ (a0 : Nat) (s0 : AS), OK Γ 0 [(0, .ref a0)] [] (fX5_init a0 s0) s0 := by
  intro a0 s0
  unfold fX5_init
  refine ok_aload_n C 0 dX5_init_0 rfl ?_
  refine ok_objInit C kw_205 kw_48 kw_49 (by rw [hR.1]; decide) (by rw [hR.2]; exact Nat.le_of_ble_eq_true rfl) dX5_init_1 ?_
  refine ok_aload_n C 0 dX5_init_4 rfl ?_
  refine ok_bipush C (v := 8) dX5_init_5 (by decide) ?_
  refine ok_newq C 111 7 kw_206 (ax_over111 C) (fun _ => rfl) (by decide) dX5_init_7 (fun q1 s2 => ?_)
  refine ok_putRF C flX5_11_9 (by first | exact Or.inl ⟨_, rfl⟩ | exact Or.inr ⟨_, rfl⟩) hin dX5_init_10 (fun s3 _ => ?_)
  refine ok_aload_n C 0 dX5_init_13 rfl ?_
  refine ok_bipush C (v := 10) dX5_init_14 (by decide) ?_
  refine ok_newI C kw_136 dX5_init_16 (fun q4 s5 => ?_)
  refine ok_putRF C flX5_17_9 (by first | exact Or.inl ⟨_, rfl⟩ | exact Or.inr ⟨_, rfl⟩) hin dX5_init_18 (fun s6 _ => ?_)
  refine ok_iconst C (v := 0) dX5_init_21 (by decide) ?_
  refine ok_istore_n C (i := 1) [(1, .int 0), (0, .ref a0)] dX5_init_22 rfl (by rw [hn]; decide) rfl ?_
  refine OK.sub (lv' := [(0, .ref a0), (1, .int 0)]) [1, 0] rfl ?_
  exact oX5_init_23 C T hn hR hin FU a0 0 s6
theorem ctX5_init {l : Launch} (hl : l.stackTraces = false) {D : va_G} {dA : Nat → ClassId} {B0 : Nat} (a0 : Nat) : Ct l D dA B0 yX5_init (.code yX5_init cX5_init 2 (none) :: ax_ALL) 3 80 [.ref a0] (fX5_init a0) :=
  Ct.of hl (by decide +kernel) (Nat.le_of_ble_eq_true rfl) fun Γ C _ _ _ _ e5 e6 e7 T hin => oX5_init C T e5 ⟨e6, e7⟩ hin a0 _
/-! ChaseLocker$History.<init>()V -/
def fX0_init_15  : Nat → Nat → Int32 → AS → Option AR
  | 0, _, _, _ => none
  | n + 1, a0, x1, s0 =>
    if (8 : Int32) ≤ x1 then (
      some (.inl none, s0))
    else (
      gR s0 a0 4 0 (fun q1 =>
      nO s0 9 8 (fun q2 s3 =>
      cS s3 (fX5_init q2 s3) (qV (fun s4 =>
      uR s4 q1 112 9 x1 q2 (fun s5 =>
      lt (x1 + 1) (fun v6 =>
      fX0_init_15 n a0 v6 s5)))))))
def fX0_init (a0 : Nat) (s0 : AS) : Option AR :=
  nA s0 112 8 (fun q1 s2 =>
  sR s2 a0 4 0 q1 (fun s3 =>
  fX0_init_15 FU a0 0 s3))
set_option maxHeartbeats 4000000 in
theorem oX0_init_15 {Γ : CX} (C : OKC Γ cX0_init RX0 none) (T : ∀ z ∈ (cx_c Γ).exceptionTable.toList, False) (hn : cx_nL Γ = 2) (hR : cx_fr Γ = 4 ∧ cx_lo Γ = 101) (hin : (cx_meth Γ).name = yX0_init.name) : ∀ (n : Nat) (a0 : Nat) (x1 : Int32) (s0 : AS), OK Γ 15 [(0, .ref a0), (1, .int x1)] [] (fX0_init_15 n a0 x1 s0) s0 := by
  intro n
  induction n with
  | zero => intro _ _ s0; exact OK.none
  | succ n ih =>
    intro a0 x1 s0
    rw [fX0_init_15]
    refine ok_iload_n C 1 dX0_init_15 rfl ?_
    refine ok_bipush C (v := 8) dX0_init_16 (by decide) ?_
    refine ok_icmp_ge C 40 dX0_init_18 (by decide) ?_ ?_
    · exact ok_vreturn C dX0_init_40
    · refine ok_aload_n C 0 dX0_init_21 rfl ?_
      refine ok_getR C frX0_11_4 dX0_init_22 (fun q1 => ?_)
      refine ok_iload_n C 1 dX0_init_25 rfl ?_
      refine ok_new C (C0 := RX5) ax_DF9 ⟨_, rfl⟩ kw_203 dX0_init_26 (fun q2 s3 => ?_)
      refine ok_dup C dX0_init_29 rfl ?_
      refine ok_callI C T [] (F := fX5_init q2) (ctX5_init (C.2.2.2.2.2.2.2.2.1) q2) vlX0_17 kw_212 rfl rfl (by rw [hR.1, hR.2]; decide) (Nat.le_of_ble_eq_true rfl) dX0_init_30 (ok_qV fun s4 => ?_)
      refine ok_aast C 112 8 9 (fun _ => rfl) (by decide) rfl (by decide) dX0_init_33 (fun s5 => ?_)
      refine ok_iincL C 1 (c := 1) (fun v6 => [(1, .int v6), (0, .ref a0)]) dX0_init_34 rfl rfl (by rw [hn]; decide) (fun _ => rfl) (fun v6 => ?_)
      refine ok_goto C 15 dX0_init_37 (by decide) ?_
      refine OK.sub (lv' := [(0, .ref a0), (1, .int v6)]) [1, 0] rfl ?_
      exact ih a0 v6 s5
set_option maxHeartbeats 4000000 in
theorem oX0_init {Γ : CX} (C : OKC Γ cX0_init RX0 none) (T : ∀ z ∈ (cx_c Γ).exceptionTable.toList, False) (hn : cx_nL Γ = 2) (hR : cx_fr Γ = 4 ∧ cx_lo Γ = 101) (hin : (cx_meth Γ).name = yX0_init.name) : ∀ (a0 : Nat) (s0 : AS), OK Γ 0 [(0, .ref a0)] [] (fX0_init a0 s0) s0 := by
  intro a0 s0
  unfold fX0_init
  refine ok_aload_n C 0 dX0_init_0 rfl ?_
  refine ok_objInit C kw_202 kw_48 kw_49 (by rw [hR.1]; decide) (by rw [hR.2]; exact Nat.le_of_ble_eq_true rfl) dX0_init_1 ?_
  refine ok_aload_n C 0 dX0_init_4 rfl ?_
  refine ok_bipush C (v := 8) dX0_init_5 (by decide) ?_
  refine ok_newq C 112 8 kw_203 (ax_over112 C) (fun _ => rfl) (by decide) dX0_init_7 (fun q1 s2 => ?_)
  refine ok_putRF C flX0_11_4 (by first | exact Or.inl ⟨_, rfl⟩ | exact Or.inr ⟨_, rfl⟩) hin dX0_init_10 (fun s3 _ => ?_)
  refine ok_iconst C (v := 0) dX0_init_13 (by decide) ?_
  refine ok_istore_n C (i := 1) [(1, .int 0), (0, .ref a0)] dX0_init_14 rfl (by rw [hn]; decide) rfl ?_
  refine OK.sub (lv' := [(0, .ref a0), (1, .int 0)]) [1, 0] rfl ?_
  exact oX0_init_15 C T hn hR hin FU a0 0 s3
theorem ctX0_init {l : Launch} (hl : l.stackTraces = false) {D : va_G} {dA : Nat → ClassId} {B0 : Nat} (a0 : Nat) : Ct l D dA B0 yX0_init (.code yX0_init cX0_init 2 (none) :: ax_ALL) 4 101 [.ref a0] (fX0_init a0) :=
  Ct.of hl (by decide +kernel) (Nat.le_of_ble_eq_true rfl) fun Γ C _ _ _ _ e5 e6 e7 T hin => oX0_init C T e5 ⟨e6, e7⟩ hin a0 _
/-! ChaseLocker$History.clear()V -/
def fX0_clear (a0 : Nat) (s0 : AS) : Option AR :=
  sI s0 a0 4 2 0 (fun s1 =>
  some (.inl none, s1))
set_option maxHeartbeats 4000000 in
theorem oX0_clear {Γ : CX} (C : OKC Γ cX0_clear RX0 none) (T : ∀ z ∈ (cx_c Γ).exceptionTable.toList, False) (hn : cx_nL Γ = 1) (hR : cx_fr Γ = 1 ∧ cx_lo Γ = 60) (hin : (cx_meth Γ).name = yX0_clear.name) : ∀ (a0 : Nat) (s0 : AS), OK Γ 0 [(0, .ref a0)] [] (fX0_clear a0 s0) s0 := by
  intro a0 s0
  unfold fX0_clear
  refine ok_aload_n C 0 dX0_clear_0 rfl ?_
  refine ok_iconst C (v := 0) dX0_clear_1 (by decide) ?_
  refine ok_putI C flX0_18_4 dX0_clear_2 (fun s1 _ => ?_)
  exact ok_vreturn C dX0_clear_5
theorem ctX0_clear {l : Launch} (hl : l.stackTraces = false) {D : va_G} {dA : Nat → ClassId} {B0 : Nat} (a0 : Nat) : Ct l D dA B0 yX0_clear (.code yX0_clear cX0_clear 1 (none) :: ax_ALL) 1 60 [.ref a0] (fX0_clear a0) :=
  Ct.of hl (by decide +kernel) (Nat.le_of_ble_eq_true rfl) fun Γ C _ _ _ _ e5 e6 e7 T hin => oX0_clear C T e5 ⟨e6, e7⟩ hin a0 _
/-! ChaseLocker$State.copyFrom(LChaseLocker$State;)V -/
def fX5_copyFrom_29  (a0 : Nat) (a1 : Nat) (s0 : AS) : Option AR :=
  gR s0 a1 9 1 (fun q1 =>
  gR s0 a0 9 1 (fun q2 =>
  cpI 100 .int s0 q1 0 q2 0 10 (fun s3 =>
  gI s3 a1 9 2 (fun v4 =>
  sI s3 a0 9 2 v4 (fun s5 =>
  gI s5 a1 9 3 (fun v6 =>
  sI s5 a0 9 3 v6 (fun s7 =>
  gI s7 a1 9 4 (fun v8 =>
  sI s7 a0 9 4 v8 (fun s9 =>
  gI s9 a1 9 5 (fun v10 =>
  sI s9 a0 9 5 v10 (fun s11 =>
  gI s11 a1 9 6 (fun v12 =>
  sI s11 a0 9 6 v12 (fun s13 =>
  gI s13 a1 9 7 (fun v14 =>
  sI s13 a0 9 7 v14 (fun s15 =>
  some (.inl none, s15))))))))))))))))
def fX5_copyFrom_2  : Nat → Nat → Nat → Int32 → AS → Option AR
  | 0, _, _, _, _ => none
  | n + 1, a0, a1, x2, s0 =>
    if (8 : Int32) ≤ x2 then (
      fX5_copyFrom_29 a0 a1 s0)
    else (
      gR s0 a0 9 0 (fun q1 =>
      aR s0 q1 111 x2 (fun q2 =>
      gR s0 a1 9 0 (fun q3 =>
      aR s0 q3 111 x2 (fun q4 =>
      cV s0 q2 7 (fX3_copyFrom q2 q4 s0) (qV (fun s5 =>
      lt (x2 + 1) (fun v6 =>
      fX5_copyFrom_2 n a0 a1 v6 s5))))))))
def fX5_copyFrom (a0 : Nat) (a1 : Nat) (s0 : AS) : Option AR :=
  fX5_copyFrom_2 FU a0 a1 0 s0
set_option maxHeartbeats 4000000 in
theorem oX5_copyFrom_29 {Γ : CX} (C : OKC Γ cX5_copyFrom RX5 none) (T : ∀ z ∈ (cx_c Γ).exceptionTable.toList, False) (hn : cx_nL Γ = 3) (hR : cx_fr Γ = 3 ∧ cx_lo Γ = 121) (hin : (cx_meth Γ).name = yX5_copyFrom.name) : ∀ (a0 : Nat) (a1 : Nat) (s0 : AS), OK Γ 29 [(0, .ref a0), (1, .ref a1)] [] (fX5_copyFrom_29  a0 a1 s0) s0 := by
  intro a0 a1 s0
  unfold fX5_copyFrom_29
  refine ok_aload_n C 1 dX5_copyFrom_29 rfl ?_
  refine ok_getR C frX5_17_9 dX5_copyFrom_30 (fun q1 => ?_)
  refine ok_iconst C (v := 0) dX5_copyFrom_33 (by decide) ?_
  refine ok_aload_n C 0 dX5_copyFrom_34 rfl ?_
  refine ok_getR C frX5_17_9 dX5_copyFrom_35 (fun q2 => ?_)
  refine ok_iconst C (v := 0) dX5_copyFrom_38 (by decide) ?_
  refine ok_bipush C (v := 10) dX5_copyFrom_39 (by decide) ?_
  refine ok_copyI C 100 0 clX5_48 (fun _ => rfl) rfl (by decide) (by decide) (by decide) (by decide) (by rw [hR.1]; decide) (by rw [hR.2]; exact Nat.le_of_ble_eq_true rfl) dX5_copyFrom_41 (fun s3 => ?_)
  refine ok_aload_n C 0 dX5_copyFrom_44 rfl ?_
  refine ok_aload_n C 1 dX5_copyFrom_45 rfl ?_
  refine ok_getI C frX5_25_9 dX5_copyFrom_46 (fun v4 => ?_)
  refine ok_putI C flX5_25_9 dX5_copyFrom_49 (fun s5 _ => ?_)
  refine ok_aload_n C 0 dX5_copyFrom_52 rfl ?_
  refine ok_aload_n C 1 dX5_copyFrom_53 rfl ?_
  refine ok_getI C frX5_29_9 dX5_copyFrom_54 (fun v6 => ?_)
  refine ok_putI C flX5_29_9 dX5_copyFrom_57 (fun s7 _ => ?_)
  refine ok_aload_n C 0 dX5_copyFrom_60 rfl ?_
  refine ok_aload_n C 1 dX5_copyFrom_61 rfl ?_
  refine ok_getI C frX5_32_9 dX5_copyFrom_62 (fun v8 => ?_)
  refine ok_putI C flX5_32_9 dX5_copyFrom_65 (fun s9 _ => ?_)
  refine ok_aload_n C 0 dX5_copyFrom_68 rfl ?_
  refine ok_aload_n C 1 dX5_copyFrom_69 rfl ?_
  refine ok_getI C frX5_35_9 dX5_copyFrom_70 (fun v10 => ?_)
  refine ok_putI C flX5_35_9 dX5_copyFrom_73 (fun s11 _ => ?_)
  refine ok_aload_n C 0 dX5_copyFrom_76 rfl ?_
  refine ok_aload_n C 1 dX5_copyFrom_77 rfl ?_
  refine ok_getI C frX5_38_9 dX5_copyFrom_78 (fun v12 => ?_)
  refine ok_putI C flX5_38_9 dX5_copyFrom_81 (fun s13 _ => ?_)
  refine ok_aload_n C 0 dX5_copyFrom_84 rfl ?_
  refine ok_aload_n C 1 dX5_copyFrom_85 rfl ?_
  refine ok_getI C frX5_41_9 dX5_copyFrom_86 (fun v14 => ?_)
  refine ok_putI C flX5_41_9 dX5_copyFrom_89 (fun s15 _ => ?_)
  exact ok_vreturn C dX5_copyFrom_92
set_option maxHeartbeats 4000000 in
theorem oX5_copyFrom_2 {Γ : CX} (C : OKC Γ cX5_copyFrom RX5 none) (T : ∀ z ∈ (cx_c Γ).exceptionTable.toList, False) (hn : cx_nL Γ = 3) (hR : cx_fr Γ = 3 ∧ cx_lo Γ = 121) (hin : (cx_meth Γ).name = yX5_copyFrom.name) : ∀ (n : Nat) (a0 : Nat) (a1 : Nat) (x2 : Int32) (s0 : AS), OK Γ 2 [(0, .ref a0), (1, .ref a1), (2, .int x2)] [] (fX5_copyFrom_2 n a0 a1 x2 s0) s0 := by
  intro n
  induction n with
  | zero => intro _ _ _ s0; exact OK.none
  | succ n ih =>
    intro a0 a1 x2 s0
    rw [fX5_copyFrom_2]
    refine ok_iload_n C 2 dX5_copyFrom_2 rfl ?_
    refine ok_bipush C (v := 8) dX5_copyFrom_3 (by decide) ?_
    refine ok_icmp_ge C 29 dX5_copyFrom_5 (by decide) ?_ ?_
    · refine OK.sub (lv' := [(0, .ref a0), (1, .ref a1)]) [0, 1] rfl ?_
      exact oX5_copyFrom_29 C T hn hR hin a0 a1 s0
    · refine ok_aload_n C 0 dX5_copyFrom_8 rfl ?_
      refine ok_getR C frX5_11_9 dX5_copyFrom_9 (fun q1 => ?_)
      refine ok_iload_n C 2 dX5_copyFrom_12 rfl ?_
      refine ok_aald C 111 7 (fun _ => rfl) (by decide) dX5_copyFrom_13 (fun q2 => ?_)
      refine ok_aload_n C 1 dX5_copyFrom_14 rfl ?_
      refine ok_getR C frX5_11_9 dX5_copyFrom_15 (fun q3 => ?_)
      refine ok_iload_n C 2 dX5_copyFrom_18 rfl ?_
      refine ok_aald C 111 7 (fun _ => rfl) (by decide) dX5_copyFrom_19 (fun q4 => ?_)
      refine ok_callV C T [.ref q4] (F := fX3_copyFrom q2 q4) (ctX3_copyFrom (C.2.2.2.2.2.2.2.2.1) q2 q4) vlX5_44 viX3_copyFrom rfl rfl (by decide) rfl (by rw [hR.1, hR.2]; decide) (Nat.le_of_ble_eq_true rfl) dX5_copyFrom_20 (ok_qV fun s5 => ?_)
      refine ok_iincL C 2 (c := 1) (fun v6 => [(2, .int v6), (0, .ref a0), (1, .ref a1)]) dX5_copyFrom_23 rfl rfl (by rw [hn]; decide) (fun _ => rfl) (fun v6 => ?_)
      refine ok_goto C 2 dX5_copyFrom_26 (by decide) ?_
      refine OK.sub (lv' := [(0, .ref a0), (1, .ref a1), (2, .int v6)]) [1, 2, 0] rfl ?_
      exact ih a0 a1 v6 s5
set_option maxHeartbeats 4000000 in
theorem oX5_copyFrom {Γ : CX} (C : OKC Γ cX5_copyFrom RX5 none) (T : ∀ z ∈ (cx_c Γ).exceptionTable.toList, False) (hn : cx_nL Γ = 3) (hR : cx_fr Γ = 3 ∧ cx_lo Γ = 121) (hin : (cx_meth Γ).name = yX5_copyFrom.name) : ∀ (a0 : Nat) (a1 : Nat) (s0 : AS), OK Γ 0 [(0, .ref a0), (1, .ref a1)] [] (fX5_copyFrom a0 a1 s0) s0 := by
  intro a0 a1 s0
  unfold fX5_copyFrom
  refine ok_iconst C (v := 0) dX5_copyFrom_0 (by decide) ?_
  refine ok_istore_n C (i := 2) [(2, .int 0), (0, .ref a0), (1, .ref a1)] dX5_copyFrom_1 rfl (by rw [hn]; decide) rfl ?_
  refine OK.sub (lv' := [(0, .ref a0), (1, .ref a1), (2, .int 0)]) [1, 2, 0] rfl ?_
  exact oX5_copyFrom_2 C T hn hR hin FU a0 a1 0 s0
theorem ctX5_copyFrom {l : Launch} (hl : l.stackTraces = false) {D : va_G} {dA : Nat → ClassId} {B0 : Nat} (a0 : Nat) (a1 : Nat) : Ct l D dA B0 yX5_copyFrom (.code yX5_copyFrom cX5_copyFrom 3 (none) :: ax_ALL) 3 121 [.ref a0, .ref a1] (fX5_copyFrom a0 a1) :=
  Ct.of hl (by decide +kernel) (Nat.le_of_ble_eq_true rfl) fun Γ C _ _ _ _ e5 e6 e7 T hin => oX5_copyFrom C T e5 ⟨e6, e7⟩ hin a0 a1 _
/-! ChaseLocker$History.remember(LChaseLocker$State;)V -/
def fX0_remember (a0 : Nat) (a1 : Nat) (s0 : AS) : Option AR :=
  gR s0 a0 4 0 (fun q1 =>
  gI s0 a0 4 1 (fun v2 =>
  aR s0 q1 112 v2 (fun q3 =>
  cV s0 q3 9 (fX5_copyFrom q3 a1 s0) (qV (fun s4 =>
  gI s4 a0 4 1 (fun v5 =>
  if (8 : Int32) = 0 then none else (
  sI s4 a0 4 1 ((v5 + 1) - (v5 + 1) / 8 * 8) (fun s6 =>
  gI s6 a0 4 2 (fun v7 =>
  lt (if (8 : Int32) < (v7 + 1) then (8 : Int32) else (v7 + 1)) (fun v8 =>
  sI s6 a0 4 2 v8 (fun s9 =>
  some (.inl none, s9))))))))))))
set_option maxHeartbeats 4000000 in
theorem oX0_remember {Γ : CX} (C : OKC Γ cX0_remember RX0 none) (T : ∀ z ∈ (cx_c Γ).exceptionTable.toList, False) (hn : cx_nL Γ = 2) (hR : cx_fr Γ = 4 ∧ cx_lo Γ = 143) (hin : (cx_meth Γ).name = yX0_remember.name) : ∀ (a0 : Nat) (a1 : Nat) (s0 : AS), OK Γ 0 [(0, .ref a0), (1, .ref a1)] [] (fX0_remember a0 a1 s0) s0 := by
  intro a0 a1 s0
  unfold fX0_remember
  refine ok_aload_n C 0 dX0_remember_0 rfl ?_
  refine ok_getR C frX0_11_4 dX0_remember_1 (fun q1 => ?_)
  refine ok_aload_n C 0 dX0_remember_4 rfl ?_
  refine ok_getI C frX0_22_4 dX0_remember_5 (fun v2 => ?_)
  refine ok_aald C 112 8 (fun _ => rfl) (by decide) dX0_remember_8 (fun q3 => ?_)
  refine ok_aload_n C 1 dX0_remember_9 rfl ?_
  refine ok_callV C T [.ref a1] (F := fX5_copyFrom q3 a1) (ctX5_copyFrom (C.2.2.2.2.2.2.2.2.1) q3 a1) vlX0_25 viX5_copyFrom rfl rfl (by decide) rfl (by rw [hR.1, hR.2]; decide) (Nat.le_of_ble_eq_true rfl) dX0_remember_10 (ok_qV fun s4 => ?_)
  refine ok_aload_n C 0 dX0_remember_13 rfl ?_
  refine ok_aload_n C 0 dX0_remember_14 rfl ?_
  refine ok_getI C frX0_22_4 dX0_remember_15 (fun v5 => ?_)
  refine ok_iconst C (v := 1) dX0_remember_18 (by decide) ?_
  refine ok_iadd C dX0_remember_19 ?_
  refine ok_bipush C (v := 8) dX0_remember_20 (by decide) ?_
  refine ok_irem C dX0_remember_22 ?_
  refine ok_putI C flX0_22_4 dX0_remember_23 (fun s6 _ => ?_)
  refine ok_aload_n C 0 dX0_remember_26 rfl ?_
  refine ok_aload_n C 0 dX0_remember_27 rfl ?_
  refine ok_getI C frX0_18_4 dX0_remember_28 (fun v7 => ?_)
  refine ok_iconst C (v := 1) dX0_remember_31 (by decide) ?_
  refine ok_iadd C dX0_remember_32 ?_
  refine ok_bipush C (v := 8) dX0_remember_33 (by decide) ?_
  refine ok_mmin C mlX0_29 (by rw [hR.1]; decide) (by rw [hR.2]; exact Nat.le_of_ble_eq_true rfl) dX0_remember_35 ?_
  refine ok_lt (fun v8 => ?_)
  refine ok_putI C flX0_18_4 dX0_remember_38 (fun s9 _ => ?_)
  exact ok_vreturn C dX0_remember_41
theorem ctX0_remember {l : Launch} (hl : l.stackTraces = false) {D : va_G} {dA : Nat → ClassId} {B0 : Nat} (a0 : Nat) (a1 : Nat) : Ct l D dA B0 yX0_remember (.code yX0_remember cX0_remember 2 (none) :: ax_ALL) 4 143 [.ref a0, .ref a1] (fX0_remember a0 a1) :=
  Ct.of hl (by decide +kernel) (Nat.le_of_ble_eq_true rfl) fun Γ C _ _ _ _ e5 e6 e7 T hin => oX0_remember C T e5 ⟨e6, e7⟩ hin a0 a1 _
/-! ChaseLocker$History.bringBack(LChaseLocker$State;)V -/
def fX0_bringBack (a0 : Nat) (a1 : Nat) (s0 : AS) : Option AR :=
  gI s0 a0 4 2 (fun v1 =>
  if v1 ≤ 0 then (
    some (.inl none, s0))
  else (
    gI s0 a0 4 1 (fun v2 =>
    if (8 : Int32) = 0 then none else (
    sI s0 a0 4 1 (((v2 + 8) - 1) - ((v2 + 8) - 1) / 8 * 8) (fun s3 =>
    gR s3 a0 4 0 (fun q4 =>
    gI s3 a0 4 1 (fun v5 =>
    aR s3 q4 112 v5 (fun q6 =>
    cV s3 a1 9 (fX5_copyFrom a1 q6 s3) (qV (fun s7 =>
    gI s7 a0 4 2 (fun v8 =>
    sI s7 a0 4 2 (v8 - 1) (fun s9 =>
    some (.inl none, s9)))))))))))))
set_option maxHeartbeats 4000000 in
theorem oX0_bringBack {Γ : CX} (C : OKC Γ cX0_bringBack RX0 none) (T : ∀ z ∈ (cx_c Γ).exceptionTable.toList, False) (hn : cx_nL Γ = 2) (hR : cx_fr Γ = 4 ∧ cx_lo Γ = 143) (hin : (cx_meth Γ).name = yX0_bringBack.name) : ∀ (a0 : Nat) (a1 : Nat) (s0 : AS), OK Γ 0 [(0, .ref a0), (1, .ref a1)] [] (fX0_bringBack a0 a1 s0) s0 := by
  intro a0 a1 s0
  unfold fX0_bringBack
  refine ok_aload_n C 0 dX0_bringBack_0 rfl ?_
  refine ok_getI C frX0_18_4 dX0_bringBack_1 (fun v1 => ?_)
  refine ok_if_le C 46 dX0_bringBack_4 (by decide) ?_ ?_
  · exact ok_vreturn C dX0_bringBack_46
  · refine ok_aload_n C 0 dX0_bringBack_7 rfl ?_
    refine ok_aload_n C 0 dX0_bringBack_8 rfl ?_
    refine ok_getI C frX0_22_4 dX0_bringBack_9 (fun v2 => ?_)
    refine ok_bipush C (v := 8) dX0_bringBack_12 (by decide) ?_
    refine ok_iadd C dX0_bringBack_14 ?_
    refine ok_iconst C (v := 1) dX0_bringBack_15 (by decide) ?_
    refine ok_isub C dX0_bringBack_16 ?_
    refine ok_bipush C (v := 8) dX0_bringBack_17 (by decide) ?_
    refine ok_irem C dX0_bringBack_19 ?_
    refine ok_putI C flX0_22_4 dX0_bringBack_20 (fun s3 _ => ?_)
    refine ok_aload_n C 1 dX0_bringBack_23 rfl ?_
    refine ok_aload_n C 0 dX0_bringBack_24 rfl ?_
    refine ok_getR C frX0_11_4 dX0_bringBack_25 (fun q4 => ?_)
    refine ok_aload_n C 0 dX0_bringBack_28 rfl ?_
    refine ok_getI C frX0_22_4 dX0_bringBack_29 (fun v5 => ?_)
    refine ok_aald C 112 8 (fun _ => rfl) (by decide) dX0_bringBack_32 (fun q6 => ?_)
    refine ok_callV C T [.ref q6] (F := fX5_copyFrom a1 q6) (ctX5_copyFrom (C.2.2.2.2.2.2.2.2.1) a1 q6) vlX0_25 viX5_copyFrom rfl rfl (by decide) rfl (by rw [hR.1, hR.2]; decide) (Nat.le_of_ble_eq_true rfl) dX0_bringBack_33 (ok_qV fun s7 => ?_)
    refine ok_aload_n C 0 dX0_bringBack_36 rfl ?_
    refine ok_dup C dX0_bringBack_37 rfl ?_
    refine ok_getI C frX0_18_4 dX0_bringBack_38 (fun v8 => ?_)
    refine ok_iconst C (v := 1) dX0_bringBack_41 (by decide) ?_
    refine ok_isub C dX0_bringBack_42 ?_
    refine ok_putI C flX0_18_4 dX0_bringBack_43 (fun s9 _ => ?_)
    exact ok_vreturn C dX0_bringBack_46
theorem ctX0_bringBack {l : Launch} (hl : l.stackTraces = false) {D : va_G} {dA : Nat → ClassId} {B0 : Nat} (a0 : Nat) (a1 : Nat) : Ct l D dA B0 yX0_bringBack (.code yX0_bringBack cX0_bringBack 2 (none) :: ax_ALL) 4 143 [.ref a0, .ref a1] (fX0_bringBack a0 a1) :=
  Ct.of hl (by decide +kernel) (Nat.le_of_ble_eq_true rfl) fun Γ C _ _ _ _ e5 e6 e7 T hin => oX0_bringBack C T e5 ⟨e6, e7⟩ hin a0 a1 _
/-! ChaseLocker$State.clear()V -/
def fX5_clear_44  (a0 : Nat) (s0 : AS) : Option AR :=
  sI s0 a0 9 2 0 (fun s1 =>
  sI s1 a0 9 3 0 (fun s2 =>
  sI s2 a0 9 4 0 (fun s3 =>
  sI s3 a0 9 5 0 (fun s4 =>
  sI s4 a0 9 6 0 (fun s5 =>
  sI s5 a0 9 7 0 (fun s6 =>
  some (.inl none, s6)))))))
def fX5_clear_25  : Nat → Nat → Int32 → AS → Option AR
  | 0, _, _, _ => none
  | n + 1, a0, x1, s0 =>
    if (10 : Int32) ≤ x1 then (
      fX5_clear_44 a0 s0)
    else (
      gR s0 a0 9 1 (fun q1 =>
      uI s0 q1 x1 0 (fun s2 =>
      lt (x1 + 1) (fun v3 =>
      fX5_clear_25 n a0 v3 s2))))
def fX5_clear_23  (a0 : Nat) (s0 : AS) : Option AR :=
  fX5_clear_25 FU a0 0 s0
def fX5_clear_2  : Nat → Nat → Int32 → AS → Option AR
  | 0, _, _, _ => none
  | n + 1, a0, x1, s0 =>
    if (8 : Int32) ≤ x1 then (
      fX5_clear_23 a0 s0)
    else (
      gR s0 a0 9 0 (fun q1 =>
      aR s0 q1 111 x1 (fun q2 =>
      cV s0 q2 7 (fX3_clear q2 s0) (qV (fun s3 =>
      lt (x1 + 1) (fun v4 =>
      fX5_clear_2 n a0 v4 s3))))))
def fX5_clear (a0 : Nat) (s0 : AS) : Option AR :=
  fX5_clear_2 FU a0 0 s0
set_option maxHeartbeats 4000000 in
theorem oX5_clear_44 {Γ : CX} (C : OKC Γ cX5_clear RX5 none) (T : ∀ z ∈ (cx_c Γ).exceptionTable.toList, False) (hn : cx_nL Γ = 2) (hR : cx_fr Γ = 3 ∧ cx_lo Γ = 101) (hin : (cx_meth Γ).name = yX5_clear.name) : ∀ (a0 : Nat) (s0 : AS), OK Γ 44 [(0, .ref a0)] [] (fX5_clear_44  a0 s0) s0 := by
  intro a0 s0
  unfold fX5_clear_44
  refine ok_aload_n C 0 dX5_clear_44 rfl ?_
  refine ok_iconst C (v := 0) dX5_clear_45 (by decide) ?_
  refine ok_putI C flX5_25_9 dX5_clear_46 (fun s1 _ => ?_)
  refine ok_aload_n C 0 dX5_clear_49 rfl ?_
  refine ok_iconst C (v := 0) dX5_clear_50 (by decide) ?_
  refine ok_putI C flX5_29_9 dX5_clear_51 (fun s2 _ => ?_)
  refine ok_aload_n C 0 dX5_clear_54 rfl ?_
  refine ok_iconst C (v := 0) dX5_clear_55 (by decide) ?_
  refine ok_putI C flX5_32_9 dX5_clear_56 (fun s3 _ => ?_)
  refine ok_aload_n C 0 dX5_clear_59 rfl ?_
  refine ok_iconst C (v := 0) dX5_clear_60 (by decide) ?_
  refine ok_putI C flX5_35_9 dX5_clear_61 (fun s4 _ => ?_)
  refine ok_aload_n C 0 dX5_clear_64 rfl ?_
  refine ok_iconst C (v := 0) dX5_clear_65 (by decide) ?_
  refine ok_putI C flX5_38_9 dX5_clear_66 (fun s5 _ => ?_)
  refine ok_aload_n C 0 dX5_clear_69 rfl ?_
  refine ok_iconst C (v := 0) dX5_clear_70 (by decide) ?_
  refine ok_putI C flX5_41_9 dX5_clear_71 (fun s6 _ => ?_)
  exact ok_vreturn C dX5_clear_74
set_option maxHeartbeats 4000000 in
theorem oX5_clear_25 {Γ : CX} (C : OKC Γ cX5_clear RX5 none) (T : ∀ z ∈ (cx_c Γ).exceptionTable.toList, False) (hn : cx_nL Γ = 2) (hR : cx_fr Γ = 3 ∧ cx_lo Γ = 101) (hin : (cx_meth Γ).name = yX5_clear.name) : ∀ (n : Nat) (a0 : Nat) (x1 : Int32) (s0 : AS), OK Γ 25 [(0, .ref a0), (1, .int x1)] [] (fX5_clear_25 n a0 x1 s0) s0 := by
  intro n
  induction n with
  | zero => intro _ _ s0; exact OK.none
  | succ n ih =>
    intro a0 x1 s0
    rw [fX5_clear_25]
    refine ok_iload_n C 1 dX5_clear_25 rfl ?_
    refine ok_bipush C (v := 10) dX5_clear_26 (by decide) ?_
    refine ok_icmp_ge C 44 dX5_clear_28 (by decide) ?_ ?_
    · refine OK.sub (lv' := [(0, .ref a0)]) [0] rfl ?_
      exact oX5_clear_44 C T hn hR hin a0 s0
    · refine ok_aload_n C 0 dX5_clear_31 rfl ?_
      refine ok_getR C frX5_17_9 dX5_clear_32 (fun q1 => ?_)
      refine ok_iload_n C 1 dX5_clear_35 rfl ?_
      refine ok_iconst C (v := 0) dX5_clear_36 (by decide) ?_
      refine ok_iast C dX5_clear_37 (fun s2 _ => ?_)
      refine ok_iincL C 1 (c := 1) (fun v3 => [(1, .int v3), (0, .ref a0)]) dX5_clear_38 rfl rfl (by rw [hn]; decide) (fun _ => rfl) (fun v3 => ?_)
      refine ok_goto C 25 dX5_clear_41 (by decide) ?_
      refine OK.sub (lv' := [(0, .ref a0), (1, .int v3)]) [1, 0] rfl ?_
      exact ih a0 v3 s2
set_option maxHeartbeats 4000000 in
theorem oX5_clear_23 {Γ : CX} (C : OKC Γ cX5_clear RX5 none) (T : ∀ z ∈ (cx_c Γ).exceptionTable.toList, False) (hn : cx_nL Γ = 2) (hR : cx_fr Γ = 3 ∧ cx_lo Γ = 101) (hin : (cx_meth Γ).name = yX5_clear.name) : ∀ (a0 : Nat) (s0 : AS), OK Γ 23 [(0, .ref a0)] [] (fX5_clear_23  a0 s0) s0 := by
  intro a0 s0
  unfold fX5_clear_23
  refine ok_iconst C (v := 0) dX5_clear_23 (by decide) ?_
  refine ok_istore_n C (i := 1) [(1, .int 0), (0, .ref a0)] dX5_clear_24 rfl (by rw [hn]; decide) rfl ?_
  refine OK.sub (lv' := [(0, .ref a0), (1, .int 0)]) [1, 0] rfl ?_
  exact oX5_clear_25 C T hn hR hin FU a0 0 s0
set_option maxHeartbeats 4000000 in
theorem oX5_clear_2 {Γ : CX} (C : OKC Γ cX5_clear RX5 none) (T : ∀ z ∈ (cx_c Γ).exceptionTable.toList, False) (hn : cx_nL Γ = 2) (hR : cx_fr Γ = 3 ∧ cx_lo Γ = 101) (hin : (cx_meth Γ).name = yX5_clear.name) : ∀ (n : Nat) (a0 : Nat) (x1 : Int32) (s0 : AS), OK Γ 2 [(0, .ref a0), (1, .int x1)] [] (fX5_clear_2 n a0 x1 s0) s0 := by
  intro n
  induction n with
  | zero => intro _ _ s0; exact OK.none
  | succ n ih =>
    intro a0 x1 s0
    rw [fX5_clear_2]
    refine ok_iload_n C 1 dX5_clear_2 rfl ?_
    refine ok_bipush C (v := 8) dX5_clear_3 (by decide) ?_
    refine ok_icmp_ge C 23 dX5_clear_5 (by decide) ?_ ?_
    · refine OK.sub (lv' := [(0, .ref a0)]) [0] rfl ?_
      exact oX5_clear_23 C T hn hR hin a0 s0
    · refine ok_aload_n C 0 dX5_clear_8 rfl ?_
      refine ok_getR C frX5_11_9 dX5_clear_9 (fun q1 => ?_)
      refine ok_iload_n C 1 dX5_clear_12 rfl ?_
      refine ok_aald C 111 7 (fun _ => rfl) (by decide) dX5_clear_13 (fun q2 => ?_)
      refine ok_callV C T [] (F := fX3_clear q2) (ctX3_clear (C.2.2.2.2.2.2.2.2.1) q2) vlX5_22 viX3_clear rfl rfl (by decide) rfl (by rw [hR.1, hR.2]; decide) (Nat.le_of_ble_eq_true rfl) dX5_clear_14 (ok_qV fun s3 => ?_)
      refine ok_iincL C 1 (c := 1) (fun v4 => [(1, .int v4), (0, .ref a0)]) dX5_clear_17 rfl rfl (by rw [hn]; decide) (fun _ => rfl) (fun v4 => ?_)
      refine ok_goto C 2 dX5_clear_20 (by decide) ?_
      refine OK.sub (lv' := [(0, .ref a0), (1, .int v4)]) [1, 0] rfl ?_
      exact ih a0 v4 s3
set_option maxHeartbeats 4000000 in
theorem oX5_clear {Γ : CX} (C : OKC Γ cX5_clear RX5 none) (T : ∀ z ∈ (cx_c Γ).exceptionTable.toList, False) (hn : cx_nL Γ = 2) (hR : cx_fr Γ = 3 ∧ cx_lo Γ = 101) (hin : (cx_meth Γ).name = yX5_clear.name) : ∀ (a0 : Nat) (s0 : AS), OK Γ 0 [(0, .ref a0)] [] (fX5_clear a0 s0) s0 := by
  intro a0 s0
  unfold fX5_clear
  refine ok_iconst C (v := 0) dX5_clear_0 (by decide) ?_
  refine ok_istore_n C (i := 1) [(1, .int 0), (0, .ref a0)] dX5_clear_1 rfl (by rw [hn]; decide) rfl ?_
  refine OK.sub (lv' := [(0, .ref a0), (1, .int 0)]) [1, 0] rfl ?_
  exact oX5_clear_2 C T hn hR hin FU a0 0 s0
theorem ctX5_clear {l : Launch} (hl : l.stackTraces = false) {D : va_G} {dA : Nat → ClassId} {B0 : Nat} (a0 : Nat) : Ct l D dA B0 yX5_clear (.code yX5_clear cX5_clear 2 (none) :: ax_ALL) 3 101 [.ref a0] (fX5_clear a0) :=
  Ct.of hl (by decide +kernel) (Nat.le_of_ble_eq_true rfl) fun Γ C _ _ _ _ e5 e6 e7 T hin => oX5_clear C T e5 ⟨e6, e7⟩ hin a0 _
/-! ChaseLocker$State.blocksInRows()I -/
def fX5_blocksInRows_4  : Nat → Nat → Int32 → Int32 → AS → Option AR
  | 0, _, _, _, _ => none
  | n + 1, a0, x1, x2, s0 =>
    if (8 : Int32) ≤ x2 then (
      some (.inl (some (.int x1)), s0))
    else (
      gR s0 a0 9 0 (fun q1 =>
      aR s0 q1 111 x2 (fun q2 =>
      gI s0 q2 7 1 (fun v3 =>
      lt (x1 + v3) (fun v4 =>
      lt (x2 + 1) (fun v5 =>
      fX5_blocksInRows_4 n a0 v4 v5 s0))))))
def fX5_blocksInRows (a0 : Nat) (s0 : AS) : Option AR :=
  fX5_blocksInRows_4 FU a0 0 0 s0
set_option maxHeartbeats 4000000 in
theorem oX5_blocksInRows_4 {Γ : CX} (C : OKC Γ cX5_blocksInRows RX5 (some (.int))) (T : ∀ z ∈ (cx_c Γ).exceptionTable.toList, False) (hn : cx_nL Γ = 3) (hR : cx_fr Γ = 1 ∧ cx_lo Γ = 60) (hin : (cx_meth Γ).name = yX5_blocksInRows.name) : ∀ (n : Nat) (a0 : Nat) (x1 : Int32) (x2 : Int32) (s0 : AS), OK Γ 4 [(0, .ref a0), (1, .int x1), (2, .int x2)] [] (fX5_blocksInRows_4 n a0 x1 x2 s0) s0 := by
  intro n
  induction n with
  | zero => intro _ _ _ s0; exact OK.none
  | succ n ih =>
    intro a0 x1 x2 s0
    rw [fX5_blocksInRows_4]
    refine ok_iload_n C 2 dX5_blocksInRows_4 rfl ?_
    refine ok_bipush C (v := 8) dX5_blocksInRows_5 (by decide) ?_
    refine ok_icmp_ge C 28 dX5_blocksInRows_7 (by decide) ?_ ?_
    · refine ok_iload_n C 1 dX5_blocksInRows_28 rfl ?_
      exact ok_ireturn C dX5_blocksInRows_29
    · refine ok_iload_n C 1 dX5_blocksInRows_10 rfl ?_
      refine ok_aload_n C 0 dX5_blocksInRows_11 rfl ?_
      refine ok_getR C frX5_11_9 dX5_blocksInRows_12 (fun q1 => ?_)
      refine ok_iload_n C 2 dX5_blocksInRows_15 rfl ?_
      refine ok_aald C 111 7 (fun _ => rfl) (by decide) dX5_blocksInRows_16 (fun q2 => ?_)
      refine ok_getI C frX5_54_7 dX5_blocksInRows_17 (fun v3 => ?_)
      refine ok_iadd C dX5_blocksInRows_20 ?_
      refine ok_lt (fun v4 => ?_)
      refine ok_istore_n C (i := 1) [(1, .int v4), (0, .ref a0), (2, .int x2)] dX5_blocksInRows_21 rfl (by rw [hn]; decide) rfl ?_
      refine ok_iincL C 2 (c := 1) (fun v5 => [(2, .int v5), (1, .int v4), (0, .ref a0)]) dX5_blocksInRows_22 rfl rfl (by rw [hn]; decide) (fun _ => rfl) (fun v5 => ?_)
      refine ok_goto C 4 dX5_blocksInRows_25 (by decide) ?_
      refine OK.sub (lv' := [(0, .ref a0), (1, .int v4), (2, .int v5)]) [2, 1, 0] rfl ?_
      exact ih a0 v4 v5 s0
set_option maxHeartbeats 4000000 in
theorem oX5_blocksInRows {Γ : CX} (C : OKC Γ cX5_blocksInRows RX5 (some (.int))) (T : ∀ z ∈ (cx_c Γ).exceptionTable.toList, False) (hn : cx_nL Γ = 3) (hR : cx_fr Γ = 1 ∧ cx_lo Γ = 60) (hin : (cx_meth Γ).name = yX5_blocksInRows.name) : ∀ (a0 : Nat) (s0 : AS), OK Γ 0 [(0, .ref a0)] [] (fX5_blocksInRows a0 s0) s0 := by
  intro a0 s0
  unfold fX5_blocksInRows
  refine ok_iconst C (v := 0) dX5_blocksInRows_0 (by decide) ?_
  refine ok_istore_n C (i := 1) [(1, .int 0), (0, .ref a0)] dX5_blocksInRows_1 rfl (by rw [hn]; decide) rfl ?_
  refine ok_iconst C (v := 0) dX5_blocksInRows_2 (by decide) ?_
  refine ok_istore_n C (i := 2) [(2, .int 0), (1, .int 0), (0, .ref a0)] dX5_blocksInRows_3 rfl (by rw [hn]; decide) rfl ?_
  refine OK.sub (lv' := [(0, .ref a0), (1, .int 0), (2, .int 0)]) [2, 1, 0] rfl ?_
  exact oX5_blocksInRows_4 C T hn hR hin FU a0 0 0 s0
theorem ctX5_blocksInRows {l : Launch} (hl : l.stackTraces = false) {D : va_G} {dA : Nat → ClassId} {B0 : Nat} (a0 : Nat) : Ct l D dA B0 yX5_blocksInRows (.code yX5_blocksInRows cX5_blocksInRows 3 (some (.int)) :: ax_ALL) 1 60 [.ref a0] (fX5_blocksInRows a0) :=
  Ct.of hl (by decide +kernel) (Nat.le_of_ble_eq_true rfl) fun Γ C _ _ _ _ e5 e6 e7 T hin => oX5_blocksInRows C T e5 ⟨e6, e7⟩ hin a0 _
/-! ChaseLocker$State.piecesInRows()I -/
def fX5_piecesInRows_4  : Nat → Nat → Int32 → Int32 → AS → Option AR
  | 0, _, _, _, _ => none
  | n + 1, a0, x1, x2, s0 =>
    if (8 : Int32) ≤ x2 then (
      some (.inl (some (.int x1)), s0))
    else (
      gR s0 a0 9 0 (fun q1 =>
      aR s0 q1 111 x2 (fun q2 =>
      gI s0 q2 7 4 (fun v3 =>
      lt (x1 + v3) (fun v4 =>
      lt (x2 + 1) (fun v5 =>
      fX5_piecesInRows_4 n a0 v4 v5 s0))))))
def fX5_piecesInRows (a0 : Nat) (s0 : AS) : Option AR :=
  fX5_piecesInRows_4 FU a0 0 0 s0
set_option maxHeartbeats 4000000 in
theorem oX5_piecesInRows_4 {Γ : CX} (C : OKC Γ cX5_piecesInRows RX5 (some (.int))) (T : ∀ z ∈ (cx_c Γ).exceptionTable.toList, False) (hn : cx_nL Γ = 3) (hR : cx_fr Γ = 1 ∧ cx_lo Γ = 60) (hin : (cx_meth Γ).name = yX5_piecesInRows.name) : ∀ (n : Nat) (a0 : Nat) (x1 : Int32) (x2 : Int32) (s0 : AS), OK Γ 4 [(0, .ref a0), (1, .int x1), (2, .int x2)] [] (fX5_piecesInRows_4 n a0 x1 x2 s0) s0 := by
  intro n
  induction n with
  | zero => intro _ _ _ s0; exact OK.none
  | succ n ih =>
    intro a0 x1 x2 s0
    rw [fX5_piecesInRows_4]
    refine ok_iload_n C 2 dX5_piecesInRows_4 rfl ?_
    refine ok_bipush C (v := 8) dX5_piecesInRows_5 (by decide) ?_
    refine ok_icmp_ge C 28 dX5_piecesInRows_7 (by decide) ?_ ?_
    · refine ok_iload_n C 1 dX5_piecesInRows_28 rfl ?_
      exact ok_ireturn C dX5_piecesInRows_29
    · refine ok_iload_n C 1 dX5_piecesInRows_10 rfl ?_
      refine ok_aload_n C 0 dX5_piecesInRows_11 rfl ?_
      refine ok_getR C frX5_11_9 dX5_piecesInRows_12 (fun q1 => ?_)
      refine ok_iload_n C 2 dX5_piecesInRows_15 rfl ?_
      refine ok_aald C 111 7 (fun _ => rfl) (by decide) dX5_piecesInRows_16 (fun q2 => ?_)
      refine ok_getI C frX5_57_7 dX5_piecesInRows_17 (fun v3 => ?_)
      refine ok_iadd C dX5_piecesInRows_20 ?_
      refine ok_lt (fun v4 => ?_)
      refine ok_istore_n C (i := 1) [(1, .int v4), (0, .ref a0), (2, .int x2)] dX5_piecesInRows_21 rfl (by rw [hn]; decide) rfl ?_
      refine ok_iincL C 2 (c := 1) (fun v5 => [(2, .int v5), (1, .int v4), (0, .ref a0)]) dX5_piecesInRows_22 rfl rfl (by rw [hn]; decide) (fun _ => rfl) (fun v5 => ?_)
      refine ok_goto C 4 dX5_piecesInRows_25 (by decide) ?_
      refine OK.sub (lv' := [(0, .ref a0), (1, .int v4), (2, .int v5)]) [2, 1, 0] rfl ?_
      exact ih a0 v4 v5 s0
set_option maxHeartbeats 4000000 in
theorem oX5_piecesInRows {Γ : CX} (C : OKC Γ cX5_piecesInRows RX5 (some (.int))) (T : ∀ z ∈ (cx_c Γ).exceptionTable.toList, False) (hn : cx_nL Γ = 3) (hR : cx_fr Γ = 1 ∧ cx_lo Γ = 60) (hin : (cx_meth Γ).name = yX5_piecesInRows.name) : ∀ (a0 : Nat) (s0 : AS), OK Γ 0 [(0, .ref a0)] [] (fX5_piecesInRows a0 s0) s0 := by
  intro a0 s0
  unfold fX5_piecesInRows
  refine ok_iconst C (v := 0) dX5_piecesInRows_0 (by decide) ?_
  refine ok_istore_n C (i := 1) [(1, .int 0), (0, .ref a0)] dX5_piecesInRows_1 rfl (by rw [hn]; decide) rfl ?_
  refine ok_iconst C (v := 0) dX5_piecesInRows_2 (by decide) ?_
  refine ok_istore_n C (i := 2) [(2, .int 0), (1, .int 0), (0, .ref a0)] dX5_piecesInRows_3 rfl (by rw [hn]; decide) rfl ?_
  refine OK.sub (lv' := [(0, .ref a0), (1, .int 0), (2, .int 0)]) [2, 1, 0] rfl ?_
  exact oX5_piecesInRows_4 C T hn hR hin FU a0 0 0 s0
theorem ctX5_piecesInRows {l : Launch} (hl : l.stackTraces = false) {D : va_G} {dA : Nat → ClassId} {B0 : Nat} (a0 : Nat) : Ct l D dA B0 yX5_piecesInRows (.code yX5_piecesInRows cX5_piecesInRows 3 (some (.int)) :: ax_ALL) 1 60 [.ref a0] (fX5_piecesInRows a0) :=
  Ct.of hl (by decide +kernel) (Nat.le_of_ble_eq_true rfl) fun Γ C _ _ _ _ e5 e6 e7 T hin => oX5_piecesInRows C T e5 ⟨e6, e7⟩ hin a0 _
/-! ChaseLocker$State.inRows(I)I -/
def fX5_inRows_4  : Nat → Nat → Int32 → Int32 → Int32 → AS → Option AR
  | 0, _, _, _, _, _ => none
  | n + 1, a0, x1, x2, x3, s0 =>
    if (8 : Int32) ≤ x3 then (
      some (.inl (some (.int x2)), s0))
    else (
      if x1 < 0 then (
        some (.inl (some (.int x2)), s0))
      else (
        if (10 : Int32) ≤ x1 then (
          some (.inl (some (.int x2)), s0))
        else (
          gR s0 a0 9 0 (fun q1 =>
          aR s0 q1 111 x3 (fun q2 =>
          gR s0 q2 7 6 (fun q3 =>
          aI s0 q3 100 x1 (fun v4 =>
          lt (x2 + v4) (fun v5 =>
          lt (x3 + 1) (fun v6 =>
          fX5_inRows_4 n a0 x1 v5 v6 s0)))))))))
def fX5_inRows (a0 : Nat) (x1 : Int32) (s0 : AS) : Option AR :=
  fX5_inRows_4 FU a0 x1 0 0 s0
set_option maxHeartbeats 4000000 in
theorem oX5_inRows_4 {Γ : CX} (C : OKC Γ cX5_inRows RX5 (some (.int))) (T : ∀ z ∈ (cx_c Γ).exceptionTable.toList, False) (hn : cx_nL Γ = 4) (hR : cx_fr Γ = 1 ∧ cx_lo Γ = 60) (hin : (cx_meth Γ).name = yX5_inRows.name) : ∀ (n : Nat) (a0 : Nat) (x1 : Int32) (x2 : Int32) (x3 : Int32) (s0 : AS), OK Γ 4 [(0, .ref a0), (1, .int x1), (2, .int x2), (3, .int x3)] [] (fX5_inRows_4 n a0 x1 x2 x3 s0) s0 := by
  intro n
  induction n with
  | zero => intro _ _ _ _ s0; exact OK.none
  | succ n ih =>
    intro a0 x1 x2 x3 s0
    rw [fX5_inRows_4]
    refine ok_iload_n C 3 dX5_inRows_4 rfl ?_
    refine ok_bipush C (v := 8) dX5_inRows_5 (by decide) ?_
    refine ok_icmp_ge C 40 dX5_inRows_7 (by decide) ?_ ?_
    · refine ok_iload_n C 2 dX5_inRows_40 rfl ?_
      exact ok_ireturn C dX5_inRows_41
    · refine ok_iload_n C 1 dX5_inRows_10 rfl ?_
      refine ok_if_lt C 40 dX5_inRows_11 (by decide) ?_ ?_
      · refine ok_iload_n C 2 dX5_inRows_40 rfl ?_
        exact ok_ireturn C dX5_inRows_41
      · refine ok_iload_n C 1 dX5_inRows_14 rfl ?_
        refine ok_bipush C (v := 10) dX5_inRows_15 (by decide) ?_
        refine ok_icmp_ge C 40 dX5_inRows_17 (by decide) ?_ ?_
        · refine ok_iload_n C 2 dX5_inRows_40 rfl ?_
          exact ok_ireturn C dX5_inRows_41
        · refine ok_iload_n C 2 dX5_inRows_20 rfl ?_
          refine ok_aload_n C 0 dX5_inRows_21 rfl ?_
          refine ok_getR C frX5_11_9 dX5_inRows_22 (fun q1 => ?_)
          refine ok_iload_n C 3 dX5_inRows_25 rfl ?_
          refine ok_aald C 111 7 (fun _ => rfl) (by decide) dX5_inRows_26 (fun q2 => ?_)
          refine ok_getR C frX5_60_7 dX5_inRows_27 (fun q3 => ?_)
          refine ok_iload_n C 1 dX5_inRows_30 rfl ?_
          refine ok_iald C dX5_inRows_31 (fun v4 => ?_)
          refine ok_iadd C dX5_inRows_32 ?_
          refine ok_lt (fun v5 => ?_)
          refine ok_istore_n C (i := 2) [(2, .int v5), (0, .ref a0), (1, .int x1), (3, .int x3)] dX5_inRows_33 rfl (by rw [hn]; decide) rfl ?_
          refine ok_iincL C 3 (c := 1) (fun v6 => [(3, .int v6), (2, .int v5), (0, .ref a0), (1, .int x1)]) dX5_inRows_34 rfl rfl (by rw [hn]; decide) (fun _ => rfl) (fun v6 => ?_)
          refine ok_goto C 4 dX5_inRows_37 (by decide) ?_
          refine OK.sub (lv' := [(0, .ref a0), (1, .int x1), (2, .int v5), (3, .int v6)]) [2, 3, 1, 0] rfl ?_
          exact ih a0 x1 v5 v6 s0
set_option maxHeartbeats 4000000 in
theorem oX5_inRows {Γ : CX} (C : OKC Γ cX5_inRows RX5 (some (.int))) (T : ∀ z ∈ (cx_c Γ).exceptionTable.toList, False) (hn : cx_nL Γ = 4) (hR : cx_fr Γ = 1 ∧ cx_lo Γ = 60) (hin : (cx_meth Γ).name = yX5_inRows.name) : ∀ (a0 : Nat) (x1 : Int32) (s0 : AS), OK Γ 0 [(0, .ref a0), (1, .int x1)] [] (fX5_inRows a0 x1 s0) s0 := by
  intro a0 x1 s0
  unfold fX5_inRows
  refine ok_iconst C (v := 0) dX5_inRows_0 (by decide) ?_
  refine ok_istore_n C (i := 2) [(2, .int 0), (0, .ref a0), (1, .int x1)] dX5_inRows_1 rfl (by rw [hn]; decide) rfl ?_
  refine ok_iconst C (v := 0) dX5_inRows_2 (by decide) ?_
  refine ok_istore_n C (i := 3) [(3, .int 0), (2, .int 0), (0, .ref a0), (1, .int x1)] dX5_inRows_3 rfl (by rw [hn]; decide) rfl ?_
  refine OK.sub (lv' := [(0, .ref a0), (1, .int x1), (2, .int 0), (3, .int 0)]) [2, 3, 1, 0] rfl ?_
  exact oX5_inRows_4 C T hn hR hin FU a0 x1 0 0 s0
theorem ctX5_inRows {l : Launch} (hl : l.stackTraces = false) {D : va_G} {dA : Nat → ClassId} {B0 : Nat} (a0 : Nat) (x1 : Int32) : Ct l D dA B0 yX5_inRows (.code yX5_inRows cX5_inRows 4 (some (.int)) :: ax_ALL) 1 60 [.ref a0, .int x1] (fX5_inRows a0 x1) :=
  Ct.of hl (by decide +kernel) (Nat.le_of_ble_eq_true rfl) fun Γ C _ _ _ _ e5 e6 e7 T hin => oX5_inRows C T e5 ⟨e6, e7⟩ hin a0 x1 _
/-! ChaseLocker$State.piecesLeft()I -/
def fX5_piecesLeft_4  : Nat → Nat → Int32 → Int32 → AS → Option AR
  | 0, _, _, _, _ => none
  | n + 1, a0, x1, x2, s0 =>
    if (10 : Int32) ≤ x2 then (
      some (.inl (some (.int x1)), s0))
    else (
      gR s0 a0 9 1 (fun q1 =>
      aI s0 q1 100 x2 (fun v2 =>
      lt (x1 + v2) (fun v3 =>
      lt (x2 + 1) (fun v4 =>
      fX5_piecesLeft_4 n a0 v3 v4 s0)))))
def fX5_piecesLeft (a0 : Nat) (s0 : AS) : Option AR :=
  fX5_piecesLeft_4 FU a0 0 0 s0
set_option maxHeartbeats 4000000 in
theorem oX5_piecesLeft_4 {Γ : CX} (C : OKC Γ cX5_piecesLeft RX5 (some (.int))) (T : ∀ z ∈ (cx_c Γ).exceptionTable.toList, False) (hn : cx_nL Γ = 3) (hR : cx_fr Γ = 1 ∧ cx_lo Γ = 60) (hin : (cx_meth Γ).name = yX5_piecesLeft.name) : ∀ (n : Nat) (a0 : Nat) (x1 : Int32) (x2 : Int32) (s0 : AS), OK Γ 4 [(0, .ref a0), (1, .int x1), (2, .int x2)] [] (fX5_piecesLeft_4 n a0 x1 x2 s0) s0 := by
  intro n
  induction n with
  | zero => intro _ _ _ s0; exact OK.none
  | succ n ih =>
    intro a0 x1 x2 s0
    rw [fX5_piecesLeft_4]
    refine ok_iload_n C 2 dX5_piecesLeft_4 rfl ?_
    refine ok_bipush C (v := 10) dX5_piecesLeft_5 (by decide) ?_
    refine ok_icmp_ge C 25 dX5_piecesLeft_7 (by decide) ?_ ?_
    · refine ok_iload_n C 1 dX5_piecesLeft_25 rfl ?_
      exact ok_ireturn C dX5_piecesLeft_26
    · refine ok_iload_n C 1 dX5_piecesLeft_10 rfl ?_
      refine ok_aload_n C 0 dX5_piecesLeft_11 rfl ?_
      refine ok_getR C frX5_17_9 dX5_piecesLeft_12 (fun q1 => ?_)
      refine ok_iload_n C 2 dX5_piecesLeft_15 rfl ?_
      refine ok_iald C dX5_piecesLeft_16 (fun v2 => ?_)
      refine ok_iadd C dX5_piecesLeft_17 ?_
      refine ok_lt (fun v3 => ?_)
      refine ok_istore_n C (i := 1) [(1, .int v3), (0, .ref a0), (2, .int x2)] dX5_piecesLeft_18 rfl (by rw [hn]; decide) rfl ?_
      refine ok_iincL C 2 (c := 1) (fun v4 => [(2, .int v4), (1, .int v3), (0, .ref a0)]) dX5_piecesLeft_19 rfl rfl (by rw [hn]; decide) (fun _ => rfl) (fun v4 => ?_)
      refine ok_goto C 4 dX5_piecesLeft_22 (by decide) ?_
      refine OK.sub (lv' := [(0, .ref a0), (1, .int v3), (2, .int v4)]) [2, 1, 0] rfl ?_
      exact ih a0 v3 v4 s0
set_option maxHeartbeats 4000000 in
theorem oX5_piecesLeft {Γ : CX} (C : OKC Γ cX5_piecesLeft RX5 (some (.int))) (T : ∀ z ∈ (cx_c Γ).exceptionTable.toList, False) (hn : cx_nL Γ = 3) (hR : cx_fr Γ = 1 ∧ cx_lo Γ = 60) (hin : (cx_meth Γ).name = yX5_piecesLeft.name) : ∀ (a0 : Nat) (s0 : AS), OK Γ 0 [(0, .ref a0)] [] (fX5_piecesLeft a0 s0) s0 := by
  intro a0 s0
  unfold fX5_piecesLeft
  refine ok_iconst C (v := 0) dX5_piecesLeft_0 (by decide) ?_
  refine ok_istore_n C (i := 1) [(1, .int 0), (0, .ref a0)] dX5_piecesLeft_1 rfl (by rw [hn]; decide) rfl ?_
  refine ok_iconst C (v := 0) dX5_piecesLeft_2 (by decide) ?_
  refine ok_istore_n C (i := 2) [(2, .int 0), (1, .int 0), (0, .ref a0)] dX5_piecesLeft_3 rfl (by rw [hn]; decide) rfl ?_
  refine OK.sub (lv' := [(0, .ref a0), (1, .int 0), (2, .int 0)]) [2, 1, 0] rfl ?_
  exact oX5_piecesLeft_4 C T hn hR hin FU a0 0 0 s0
theorem ctX5_piecesLeft {l : Launch} (hl : l.stackTraces = false) {D : va_G} {dA : Nat → ClassId} {B0 : Nat} (a0 : Nat) : Ct l D dA B0 yX5_piecesLeft (.code yX5_piecesLeft cX5_piecesLeft 3 (some (.int)) :: ax_ALL) 1 60 [.ref a0] (fX5_piecesLeft a0) :=
  Ct.of hl (by decide +kernel) (Nat.le_of_ble_eq_true rfl) fun Γ C _ _ _ _ e5 e6 e7 T hin => oX5_piecesLeft C T e5 ⟨e6, e7⟩ hin a0 _
/-! ChaseLocker$State.tightRows(LChaseLocker$Plan;)I -/
def fX5_tightRows_26 (r4 : Nat → Nat → Int32 → Int32 → AS → Option AR) (a0 : Nat) (a1 : Nat) (x2 : Int32) (x3 : Int32) (s0 : AS) : Option AR :=
  lt (x3 + 1) (fun v1 =>
  r4 a0 a1 x2 v1 s0)
def fX5_tightRows_4  : Nat → Nat → Nat → Int32 → Int32 → AS → Option AR
  | 0, _, _, _, _, _ => none
  | n + 1, a0, a1, x2, x3, s0 =>
    if (8 : Int32) ≤ x3 then (
      some (.inl (some (.int x2)), s0))
    else (
      gR s0 a0 9 0 (fun q1 =>
      aR s0 q1 111 x3 (fun q2 =>
      cV s0 q2 7 (fX3_isTightIn q2 a1 s0) (qI (fun v3 s4 =>
      if v3 = 0 then (
        fX5_tightRows_26 (fX5_tightRows_4 n) a0 a1 x2 x3 s4)
      else (
        lt (x2 + 1) (fun v5 =>
        fX5_tightRows_26 (fX5_tightRows_4 n) a0 a1 v5 x3 s4)))))))
def fX5_tightRows (a0 : Nat) (a1 : Nat) (s0 : AS) : Option AR :=
  fX5_tightRows_4 FU a0 a1 0 0 s0
set_option maxHeartbeats 4000000 in
theorem oX5_tightRows_26 {Γ : CX} (C : OKC Γ cX5_tightRows RX5 (some (.int))) (T : ∀ z ∈ (cx_c Γ).exceptionTable.toList, False) (hn : cx_nL Γ = 4) (hR : cx_fr Γ = 4 ∧ cx_lo Γ = 123) (hin : (cx_meth Γ).name = yX5_tightRows.name) {r4 : Nat → Nat → Int32 → Int32 → AS → Option AR} (h4 : ∀ (a0 : Nat) (a1 : Nat) (x2 : Int32) (x3 : Int32) (s0 : AS), OK Γ 4 [(0, .ref a0), (1, .ref a1), (2, .int x2), (3, .int x3)] [] (r4 a0 a1 x2 x3 s0) s0) : ∀ (a0 : Nat) (a1 : Nat) (x2 : Int32) (x3 : Int32) (s0 : AS), OK Γ 26 [(0, .ref a0), (1, .ref a1), (2, .int x2), (3, .int x3)] [] (fX5_tightRows_26 r4 a0 a1 x2 x3 s0) s0 := by
  intro a0 a1 x2 x3 s0
  unfold fX5_tightRows_26
  refine ok_iincL C 3 (c := 1) (fun v1 => [(3, .int v1), (0, .ref a0), (1, .ref a1), (2, .int x2)]) dX5_tightRows_26 rfl rfl (by rw [hn]; decide) (fun _ => rfl) (fun v1 => ?_)
  refine ok_goto C 4 dX5_tightRows_29 (by decide) ?_
  refine OK.sub (lv' := [(0, .ref a0), (1, .ref a1), (2, .int x2), (3, .int v1)]) [1, 2, 3, 0] rfl ?_
  exact h4 a0 a1 x2 v1 s0
set_option maxHeartbeats 4000000 in
theorem oX5_tightRows_4 {Γ : CX} (C : OKC Γ cX5_tightRows RX5 (some (.int))) (T : ∀ z ∈ (cx_c Γ).exceptionTable.toList, False) (hn : cx_nL Γ = 4) (hR : cx_fr Γ = 4 ∧ cx_lo Γ = 123) (hin : (cx_meth Γ).name = yX5_tightRows.name) : ∀ (n : Nat) (a0 : Nat) (a1 : Nat) (x2 : Int32) (x3 : Int32) (s0 : AS), OK Γ 4 [(0, .ref a0), (1, .ref a1), (2, .int x2), (3, .int x3)] [] (fX5_tightRows_4 n a0 a1 x2 x3 s0) s0 := by
  intro n
  induction n with
  | zero => intro _ _ _ _ s0; exact OK.none
  | succ n ih =>
    intro a0 a1 x2 x3 s0
    rw [fX5_tightRows_4]
    refine ok_iload_n C 3 dX5_tightRows_4 rfl ?_
    refine ok_bipush C (v := 8) dX5_tightRows_5 (by decide) ?_
    refine ok_icmp_ge C 32 dX5_tightRows_7 (by decide) ?_ ?_
    · refine ok_iload_n C 2 dX5_tightRows_32 rfl ?_
      exact ok_ireturn C dX5_tightRows_33
    · refine ok_aload_n C 0 dX5_tightRows_10 rfl ?_
      refine ok_getR C frX5_11_9 dX5_tightRows_11 (fun q1 => ?_)
      refine ok_iload_n C 3 dX5_tightRows_14 rfl ?_
      refine ok_aald C 111 7 (fun _ => rfl) (by decide) dX5_tightRows_15 (fun q2 => ?_)
      refine ok_aload_n C 1 dX5_tightRows_16 rfl ?_
      refine ok_callV C T [.ref a1] (F := fX3_isTightIn q2 a1) (ctX3_isTightIn (C.2.2.2.2.2.2.2.2.1) q2 a1) vlX5_63 viX3_isTightIn rfl rfl (by decide) rfl (by rw [hR.1, hR.2]; decide) (Nat.le_of_ble_eq_true rfl) dX5_tightRows_17 (ok_qI fun v3 s4 => ?_)
      refine ok_if_eq C 26 dX5_tightRows_20 (by decide) ?_ ?_
      · exact oX5_tightRows_26 C T hn hR hin ih a0 a1 x2 x3 s4
      · refine ok_iincL C 2 (c := 1) (fun v5 => [(2, .int v5), (0, .ref a0), (1, .ref a1), (3, .int x3)]) dX5_tightRows_23 rfl rfl (by rw [hn]; decide) (fun _ => rfl) (fun v5 => ?_)
        refine OK.sub (lv' := [(0, .ref a0), (1, .ref a1), (2, .int v5), (3, .int x3)]) [1, 2, 0, 3] rfl ?_
        exact oX5_tightRows_26 C T hn hR hin ih a0 a1 v5 x3 s4
set_option maxHeartbeats 4000000 in
theorem oX5_tightRows {Γ : CX} (C : OKC Γ cX5_tightRows RX5 (some (.int))) (T : ∀ z ∈ (cx_c Γ).exceptionTable.toList, False) (hn : cx_nL Γ = 4) (hR : cx_fr Γ = 4 ∧ cx_lo Γ = 123) (hin : (cx_meth Γ).name = yX5_tightRows.name) : ∀ (a0 : Nat) (a1 : Nat) (s0 : AS), OK Γ 0 [(0, .ref a0), (1, .ref a1)] [] (fX5_tightRows a0 a1 s0) s0 := by
  intro a0 a1 s0
  unfold fX5_tightRows
  refine ok_iconst C (v := 0) dX5_tightRows_0 (by decide) ?_
  refine ok_istore_n C (i := 2) [(2, .int 0), (0, .ref a0), (1, .ref a1)] dX5_tightRows_1 rfl (by rw [hn]; decide) rfl ?_
  refine ok_iconst C (v := 0) dX5_tightRows_2 (by decide) ?_
  refine ok_istore_n C (i := 3) [(3, .int 0), (2, .int 0), (0, .ref a0), (1, .ref a1)] dX5_tightRows_3 rfl (by rw [hn]; decide) rfl ?_
  refine OK.sub (lv' := [(0, .ref a0), (1, .ref a1), (2, .int 0), (3, .int 0)]) [2, 3, 1, 0] rfl ?_
  exact oX5_tightRows_4 C T hn hR hin FU a0 a1 0 0 s0
theorem ctX5_tightRows {l : Launch} (hl : l.stackTraces = false) {D : va_G} {dA : Nat → ClassId} {B0 : Nat} (a0 : Nat) (a1 : Nat) : Ct l D dA B0 yX5_tightRows (.code yX5_tightRows cX5_tightRows 4 (some (.int)) :: ax_ALL) 4 123 [.ref a0, .ref a1] (fX5_tightRows a0 a1) :=
  Ct.of hl (by decide +kernel) (Nat.le_of_ble_eq_true rfl) fun Γ C _ _ _ _ e5 e6 e7 T hin => oX5_tightRows C T e5 ⟨e6, e7⟩ hin a0 a1 _
/-! ChaseLocker$State.canHaveQuoin(LChaseLocker$Row;)Z -/
def fX5_canHaveQuoin (a0 : Nat) (a1 : Nat) (s0 : AS) : Option AR :=
  cV s0 a1 7 (fX3_hasQuoin a1 s0) (qI (fun v1 s2 =>
  if v1 = 0 then (
    gI s2 a0 9 2 (fun v3 =>
    if v3 ≤ 0 then (
      rZ 0 s2)
    else (
      rZ 1 s2)))
  else (
    rZ 1 s2)))
set_option maxHeartbeats 4000000 in
theorem oX5_canHaveQuoin {Γ : CX} (C : OKC Γ cX5_canHaveQuoin RX5 (some (.boolean))) (T : ∀ z ∈ (cx_c Γ).exceptionTable.toList, False) (hn : cx_nL Γ = 2) (hR : cx_fr Γ = 2 ∧ cx_lo Γ = 80) (hin : (cx_meth Γ).name = yX5_canHaveQuoin.name) : ∀ (a0 : Nat) (a1 : Nat) (s0 : AS), OK Γ 0 [(0, .ref a0), (1, .ref a1)] [] (fX5_canHaveQuoin a0 a1 s0) s0 := by
  intro a0 a1 s0
  unfold fX5_canHaveQuoin
  refine ok_aload_n C 1 dX5_canHaveQuoin_0 rfl ?_
  refine ok_callV C T [] (F := fX3_hasQuoin a1) (ctX3_hasQuoin (C.2.2.2.2.2.2.2.2.1) a1) vlX5_67 viX3_hasQuoin rfl rfl (by decide) rfl (by rw [hR.1, hR.2]; decide) (Nat.le_of_ble_eq_true rfl) dX5_canHaveQuoin_1 (ok_qI fun v1 s2 => ?_)
  refine ok_if_ne C 14 dX5_canHaveQuoin_4 (by decide) ?_ ?_
  · refine ok_iconst C (v := 1) dX5_canHaveQuoin_14 (by decide) ?_
    refine ok_goto C 19 dX5_canHaveQuoin_15 (by decide) ?_
    exact ok_zreturn C dX5_canHaveQuoin_19
  · refine ok_aload_n C 0 dX5_canHaveQuoin_7 rfl ?_
    refine ok_getI C frX5_25_9 dX5_canHaveQuoin_8 (fun v3 => ?_)
    refine ok_if_le C 18 dX5_canHaveQuoin_11 (by decide) ?_ ?_
    · refine ok_iconst C (v := 0) dX5_canHaveQuoin_18 (by decide) ?_
      exact ok_zreturn C dX5_canHaveQuoin_19
    · refine ok_iconst C (v := 1) dX5_canHaveQuoin_14 (by decide) ?_
      refine ok_goto C 19 dX5_canHaveQuoin_15 (by decide) ?_
      exact ok_zreturn C dX5_canHaveQuoin_19
theorem ctX5_canHaveQuoin {l : Launch} (hl : l.stackTraces = false) {D : va_G} {dA : Nat → ClassId} {B0 : Nat} (a0 : Nat) (a1 : Nat) : Ct l D dA B0 yX5_canHaveQuoin (.code yX5_canHaveQuoin cX5_canHaveQuoin 2 (some (.boolean)) :: ax_ALL) 2 80 [.ref a0, .ref a1] (fX5_canHaveQuoin a0 a1) :=
  Ct.of hl (by decide +kernel) (Nat.le_of_ble_eq_true rfl) fun Γ C _ _ _ _ e5 e6 e7 T hin => oX5_canHaveQuoin C T e5 ⟨e6, e7⟩ hin a0 a1 _
/-! ChaseLocker$State.setQuoin(LChaseLocker$Row;I)V -/
def fX5_setQuoin_17  (a1 : Nat) (x2 : Int32) (s0 : AS) : Option AR :=
  sI s0 a1 7 7 x2 (fun s1 =>
  sI s1 a1 7 8 0 (fun s2 =>
  some (.inl none, s2)))
def fX5_setQuoin (a0 : Nat) (a1 : Nat) (x2 : Int32) (s0 : AS) : Option AR :=
  cV s0 a1 7 (fX3_hasQuoin a1 s0) (qI (fun v1 s2 =>
  if v1 = 0 then (
    gI s2 a0 9 2 (fun v3 =>
    sI s2 a0 9 2 (v3 - 1) (fun s4 =>
    fX5_setQuoin_17 a1 x2 s4)))
  else (
    fX5_setQuoin_17 a1 x2 s2)))
set_option maxHeartbeats 4000000 in
theorem oX5_setQuoin_17 {Γ : CX} (C : OKC Γ cX5_setQuoin RX5 none) (T : ∀ z ∈ (cx_c Γ).exceptionTable.toList, False) (hn : cx_nL Γ = 3) (hR : cx_fr Γ = 2 ∧ cx_lo Γ = 80) (hin : (cx_meth Γ).name = yX5_setQuoin.name) : ∀ (a1 : Nat) (x2 : Int32) (s0 : AS), OK Γ 17 [(1, .ref a1), (2, .int x2)] [] (fX5_setQuoin_17  a1 x2 s0) s0 := by
  intro a1 x2 s0
  unfold fX5_setQuoin_17
  refine ok_aload_n C 0 dX5_setQuoin_17 rfl ?_
  refine ok_iload_n C 1 dX5_setQuoin_18 rfl ?_
  refine ok_putI C flX5_71_7 dX5_setQuoin_19 (fun s1 _ => ?_)
  refine ok_aload_n C 0 dX5_setQuoin_22 rfl ?_
  refine ok_iconst C (v := 0) dX5_setQuoin_23 (by decide) ?_
  refine ok_putI C flX5_74_7 dX5_setQuoin_24 (fun s2 _ => ?_)
  exact ok_vreturn C dX5_setQuoin_27
set_option maxHeartbeats 4000000 in
theorem oX5_setQuoin {Γ : CX} (C : OKC Γ cX5_setQuoin RX5 none) (T : ∀ z ∈ (cx_c Γ).exceptionTable.toList, False) (hn : cx_nL Γ = 3) (hR : cx_fr Γ = 2 ∧ cx_lo Γ = 80) (hin : (cx_meth Γ).name = yX5_setQuoin.name) : ∀ (a0 : Nat) (a1 : Nat) (x2 : Int32) (s0 : AS), OK Γ 0 [(0, .ref a0), (1, .ref a1), (2, .int x2)] [] (fX5_setQuoin a0 a1 x2 s0) s0 := by
  intro a0 a1 x2 s0
  unfold fX5_setQuoin
  refine ok_aload_n C 1 dX5_setQuoin_0 rfl ?_
  refine ok_callV C T [] (F := fX3_hasQuoin a1) (ctX3_hasQuoin (C.2.2.2.2.2.2.2.2.1) a1) vlX5_67 viX3_hasQuoin rfl rfl (by decide) rfl (by rw [hR.1, hR.2]; decide) (Nat.le_of_ble_eq_true rfl) dX5_setQuoin_1 (ok_qI fun v1 s2 => ?_)
  refine ok_if_ne C 17 dX5_setQuoin_4 (by decide) ?_ ?_
  · refine OK.sub (lv' := [(1, .ref a1), (2, .int x2)]) [1, 2] rfl ?_
    exact oX5_setQuoin_17 C T hn hR hin a1 x2 s2
  · refine ok_aload_n C 0 dX5_setQuoin_7 rfl ?_
    refine ok_dup C dX5_setQuoin_8 rfl ?_
    refine ok_getI C frX5_25_9 dX5_setQuoin_9 (fun v3 => ?_)
    refine ok_iconst C (v := 1) dX5_setQuoin_12 (by decide) ?_
    refine ok_isub C dX5_setQuoin_13 ?_
    refine ok_putI C flX5_25_9 dX5_setQuoin_14 (fun s4 _ => ?_)
    refine OK.sub (lv' := [(1, .ref a1), (2, .int x2)]) [1, 2] rfl ?_
    exact oX5_setQuoin_17 C T hn hR hin a1 x2 s4
theorem ctX5_setQuoin {l : Launch} (hl : l.stackTraces = false) {D : va_G} {dA : Nat → ClassId} {B0 : Nat} (a0 : Nat) (a1 : Nat) (x2 : Int32) : Ct l D dA B0 yX5_setQuoin (.code yX5_setQuoin cX5_setQuoin 3 (none) :: ax_ALL) 2 80 [.ref a0, .ref a1, .int x2] (fX5_setQuoin a0 a1 x2) :=
  Ct.of hl (by decide +kernel) (Nat.le_of_ble_eq_true rfl) fun Γ C _ _ _ _ e5 e6 e7 T hin => oX5_setQuoin C T e5 ⟨e6, e7⟩ hin a0 a1 x2 _
/-! ChaseLocker$State.removeQuoin(LChaseLocker$Row;)V -/
def fX5_removeQuoin_17  (a1 : Nat) (s0 : AS) : Option AR :=
  sI s0 a1 7 7 ((-1)) (fun s1 =>
  sI s1 a1 7 8 0 (fun s2 =>
  some (.inl none, s2)))
def fX5_removeQuoin (a0 : Nat) (a1 : Nat) (s0 : AS) : Option AR :=
  cV s0 a1 7 (fX3_hasQuoin a1 s0) (qI (fun v1 s2 =>
  if v1 = 0 then (
    fX5_removeQuoin_17 a1 s2)
  else (
    gI s2 a0 9 2 (fun v3 =>
    sI s2 a0 9 2 (v3 + 1) (fun s4 =>
    fX5_removeQuoin_17 a1 s4)))))
set_option maxHeartbeats 4000000 in
theorem oX5_removeQuoin_17 {Γ : CX} (C : OKC Γ cX5_removeQuoin RX5 none) (T : ∀ z ∈ (cx_c Γ).exceptionTable.toList, False) (hn : cx_nL Γ = 2) (hR : cx_fr Γ = 2 ∧ cx_lo Γ = 80) (hin : (cx_meth Γ).name = yX5_removeQuoin.name) : ∀ (a1 : Nat) (s0 : AS), OK Γ 17 [(1, .ref a1)] [] (fX5_removeQuoin_17  a1 s0) s0 := by
  intro a1 s0
  unfold fX5_removeQuoin_17
  refine ok_aload_n C 0 dX5_removeQuoin_17 rfl ?_
  refine ok_iconst C (v := (-1)) dX5_removeQuoin_18 (by decide) ?_
  refine ok_putI C flX5_71_7 dX5_removeQuoin_19 (fun s1 _ => ?_)
  refine ok_aload_n C 0 dX5_removeQuoin_22 rfl ?_
  refine ok_iconst C (v := 0) dX5_removeQuoin_23 (by decide) ?_
  refine ok_putI C flX5_74_7 dX5_removeQuoin_24 (fun s2 _ => ?_)
  exact ok_vreturn C dX5_removeQuoin_27
set_option maxHeartbeats 4000000 in
theorem oX5_removeQuoin {Γ : CX} (C : OKC Γ cX5_removeQuoin RX5 none) (T : ∀ z ∈ (cx_c Γ).exceptionTable.toList, False) (hn : cx_nL Γ = 2) (hR : cx_fr Γ = 2 ∧ cx_lo Γ = 80) (hin : (cx_meth Γ).name = yX5_removeQuoin.name) : ∀ (a0 : Nat) (a1 : Nat) (s0 : AS), OK Γ 0 [(0, .ref a0), (1, .ref a1)] [] (fX5_removeQuoin a0 a1 s0) s0 := by
  intro a0 a1 s0
  unfold fX5_removeQuoin
  refine ok_aload_n C 1 dX5_removeQuoin_0 rfl ?_
  refine ok_callV C T [] (F := fX3_hasQuoin a1) (ctX3_hasQuoin (C.2.2.2.2.2.2.2.2.1) a1) vlX5_67 viX3_hasQuoin rfl rfl (by decide) rfl (by rw [hR.1, hR.2]; decide) (Nat.le_of_ble_eq_true rfl) dX5_removeQuoin_1 (ok_qI fun v1 s2 => ?_)
  refine ok_if_eq C 17 dX5_removeQuoin_4 (by decide) ?_ ?_
  · refine OK.sub (lv' := [(1, .ref a1)]) [1] rfl ?_
    exact oX5_removeQuoin_17 C T hn hR hin a1 s2
  · refine ok_aload_n C 0 dX5_removeQuoin_7 rfl ?_
    refine ok_dup C dX5_removeQuoin_8 rfl ?_
    refine ok_getI C frX5_25_9 dX5_removeQuoin_9 (fun v3 => ?_)
    refine ok_iconst C (v := 1) dX5_removeQuoin_12 (by decide) ?_
    refine ok_iadd C dX5_removeQuoin_13 ?_
    refine ok_putI C flX5_25_9 dX5_removeQuoin_14 (fun s4 _ => ?_)
    refine OK.sub (lv' := [(1, .ref a1)]) [1] rfl ?_
    exact oX5_removeQuoin_17 C T hn hR hin a1 s4
theorem ctX5_removeQuoin {l : Launch} (hl : l.stackTraces = false) {D : va_G} {dA : Nat → ClassId} {B0 : Nat} (a0 : Nat) (a1 : Nat) : Ct l D dA B0 yX5_removeQuoin (.code yX5_removeQuoin cX5_removeQuoin 2 (none) :: ax_ALL) 2 80 [.ref a0, .ref a1] (fX5_removeQuoin a0 a1) :=
  Ct.of hl (by decide +kernel) (Nat.le_of_ble_eq_true rfl) fun Γ C _ _ _ _ e5 e6 e7 T hin => oX5_removeQuoin C T e5 ⟨e6, e7⟩ hin a0 a1 _
/-! ChaseLocker$State.movePieceIn(LChaseLocker$Plan;LChaseLocker$Row;I)V -/
def fX5_movePieceIn (a0 : Nat) (a1 : Nat) (a2 : Nat) (x3 : Int32) (s0 : AS) : Option AR :=
  if x3 < 0 then (
    some (.inl none, s0))
  else (
    if (10 : Int32) ≤ x3 then (
      some (.inl none, s0))
    else (
      gR s0 a0 9 1 (fun q1 =>
      aI s0 q1 100 x3 (fun v2 =>
      uI s0 q1 x3 (v2 - 1) (fun s3 =>
      cV s3 a2 7 (fX3_addPiece a2 a1 x3 s3) (qV (fun s4 =>
      some (.inl none, s4))))))))
set_option maxHeartbeats 4000000 in
theorem oX5_movePieceIn {Γ : CX} (C : OKC Γ cX5_movePieceIn RX5 none) (T : ∀ z ∈ (cx_c Γ).exceptionTable.toList, False) (hn : cx_nL Γ = 4) (hR : cx_fr Γ = 3 ∧ cx_lo Γ = 107) (hin : (cx_meth Γ).name = yX5_movePieceIn.name) : ∀ (a0 : Nat) (a1 : Nat) (a2 : Nat) (x3 : Int32) (s0 : AS), OK Γ 0 [(0, .ref a0), (1, .ref a1), (2, .ref a2), (3, .int x3)] [] (fX5_movePieceIn a0 a1 a2 x3 s0) s0 := by
  intro a0 a1 a2 x3 s0
  unfold fX5_movePieceIn
  refine ok_iload_n C 3 dX5_movePieceIn_0 rfl ?_
  refine ok_if_lt C 26 dX5_movePieceIn_1 (by decide) ?_ ?_
  · exact ok_vreturn C dX5_movePieceIn_26
  · refine ok_iload_n C 3 dX5_movePieceIn_4 rfl ?_
    refine ok_bipush C (v := 10) dX5_movePieceIn_5 (by decide) ?_
    refine ok_icmp_ge C 26 dX5_movePieceIn_7 (by decide) ?_ ?_
    · exact ok_vreturn C dX5_movePieceIn_26
    · refine ok_aload_n C 0 dX5_movePieceIn_10 rfl ?_
      refine ok_getR C frX5_17_9 dX5_movePieceIn_11 (fun q1 => ?_)
      refine ok_iload_n C 3 dX5_movePieceIn_14 rfl ?_
      refine ok_dup2 C dX5_movePieceIn_15 rfl rfl ?_
      refine ok_iald C dX5_movePieceIn_16 (fun v2 => ?_)
      refine ok_iconst C (v := 1) dX5_movePieceIn_17 (by decide) ?_
      refine ok_isub C dX5_movePieceIn_18 ?_
      refine ok_iast C dX5_movePieceIn_19 (fun s3 _ => ?_)
      refine ok_aload_n C 2 dX5_movePieceIn_20 rfl ?_
      refine ok_aload_n C 1 dX5_movePieceIn_21 rfl ?_
      refine ok_iload_n C 3 dX5_movePieceIn_22 rfl ?_
      refine ok_callV C T [.ref a1, .int x3] (F := fX3_addPiece a2 a1 x3) (ctX3_addPiece (C.2.2.2.2.2.2.2.2.1) a2 a1 x3) vlX5_77 viX3_addPiece rfl rfl (by decide) rfl (by rw [hR.1, hR.2]; decide) (Nat.le_of_ble_eq_true rfl) dX5_movePieceIn_23 (ok_qV fun s4 => ?_)
      exact ok_vreturn C dX5_movePieceIn_26
theorem ctX5_movePieceIn {l : Launch} (hl : l.stackTraces = false) {D : va_G} {dA : Nat → ClassId} {B0 : Nat} (a0 : Nat) (a1 : Nat) (a2 : Nat) (x3 : Int32) : Ct l D dA B0 yX5_movePieceIn (.code yX5_movePieceIn cX5_movePieceIn 4 (none) :: ax_ALL) 3 107 [.ref a0, .ref a1, .ref a2, .int x3] (fX5_movePieceIn a0 a1 a2 x3) :=
  Ct.of hl (by decide +kernel) (Nat.le_of_ble_eq_true rfl) fun Γ C _ _ _ _ e5 e6 e7 T hin => oX5_movePieceIn C T e5 ⟨e6, e7⟩ hin a0 a1 a2 x3 _
/-! ChaseLocker$State.movePieceOut(LChaseLocker$Plan;LChaseLocker$Row;I)I -/
def fX5_movePieceOut (a0 : Nat) (a1 : Nat) (a2 : Nat) (x3 : Int32) (s0 : AS) : Option AR :=
  cV s0 a2 7 (fX3_removePiece a2 a1 x3 s0) (qI (fun v1 s2 =>
  if v1 < 0 then (
    some (.inl (some (.int v1)), s2))
  else (
    if (10 : Int32) ≤ v1 then (
      some (.inl (some (.int v1)), s2))
    else (
      gR s2 a0 9 1 (fun q3 =>
      aI s2 q3 100 v1 (fun v4 =>
      uI s2 q3 v1 (v4 + 1) (fun s5 =>
      some (.inl (some (.int v1)), s5))))))))
set_option maxHeartbeats 4000000 in
theorem oX5_movePieceOut {Γ : CX} (C : OKC Γ cX5_movePieceOut RX5 (some (.int))) (T : ∀ z ∈ (cx_c Γ).exceptionTable.toList, False) (hn : cx_nL Γ = 5) (hR : cx_fr Γ = 3 ∧ cx_lo Γ = 109) (hin : (cx_meth Γ).name = yX5_movePieceOut.name) : ∀ (a0 : Nat) (a1 : Nat) (a2 : Nat) (x3 : Int32) (s0 : AS), OK Γ 0 [(0, .ref a0), (1, .ref a1), (2, .ref a2), (3, .int x3)] [] (fX5_movePieceOut a0 a1 a2 x3 s0) s0 := by
  intro a0 a1 a2 x3 s0
  unfold fX5_movePieceOut
  refine ok_aload_n C 2 dX5_movePieceOut_0 rfl ?_
  refine ok_aload_n C 1 dX5_movePieceOut_1 rfl ?_
  refine ok_iload_n C 3 dX5_movePieceOut_2 rfl ?_
  refine ok_callV C T [.ref a1, .int x3] (F := fX3_removePiece a2 a1 x3) (ctX3_removePiece (C.2.2.2.2.2.2.2.2.1) a2 a1 x3) vlX5_81 viX3_removePiece rfl rfl (by decide) rfl (by rw [hR.1, hR.2]; decide) (Nat.le_of_ble_eq_true rfl) dX5_movePieceOut_3 (ok_qI fun v1 s2 => ?_)
  refine ok_istore C (i := 4) [(4, .int v1), (0, .ref a0), (1, .ref a1), (2, .ref a2), (3, .int x3)] dX5_movePieceOut_6 (by rw [hn]; decide) rfl ?_
  refine ok_iload C 0 dX5_movePieceOut_8 rfl ?_
  refine ok_if_lt C 31 dX5_movePieceOut_10 (by decide) ?_ ?_
  · refine ok_iload C 0 dX5_movePieceOut_31 rfl ?_
    exact ok_ireturn C dX5_movePieceOut_33
  · refine ok_iload C 0 dX5_movePieceOut_13 rfl ?_
    refine ok_bipush C (v := 10) dX5_movePieceOut_15 (by decide) ?_
    refine ok_icmp_ge C 31 dX5_movePieceOut_17 (by decide) ?_ ?_
    · refine ok_iload C 0 dX5_movePieceOut_31 rfl ?_
      exact ok_ireturn C dX5_movePieceOut_33
    · refine ok_aload_n C 1 dX5_movePieceOut_20 rfl ?_
      refine ok_getR C frX5_17_9 dX5_movePieceOut_21 (fun q3 => ?_)
      refine ok_iload C 0 dX5_movePieceOut_24 rfl ?_
      refine ok_dup2 C dX5_movePieceOut_26 rfl rfl ?_
      refine ok_iald C dX5_movePieceOut_27 (fun v4 => ?_)
      refine ok_iconst C (v := 1) dX5_movePieceOut_28 (by decide) ?_
      refine ok_iadd C dX5_movePieceOut_29 ?_
      refine ok_iast C dX5_movePieceOut_30 (fun s5 _ => ?_)
      refine ok_iload C 0 dX5_movePieceOut_31 rfl ?_
      exact ok_ireturn C dX5_movePieceOut_33
theorem ctX5_movePieceOut {l : Launch} (hl : l.stackTraces = false) {D : va_G} {dA : Nat → ClassId} {B0 : Nat} (a0 : Nat) (a1 : Nat) (a2 : Nat) (x3 : Int32) : Ct l D dA B0 yX5_movePieceOut (.code yX5_movePieceOut cX5_movePieceOut 5 (some (.int)) :: ax_ALL) 3 109 [.ref a0, .ref a1, .ref a2, .int x3] (fX5_movePieceOut a0 a1 a2 x3) :=
  Ct.of hl (by decide +kernel) (Nat.le_of_ble_eq_true rfl) fun Γ C _ _ _ _ e5 e6 e7 T hin => oX5_movePieceOut C T e5 ⟨e6, e7⟩ hin a0 a1 a2 x3 _
/-! ChaseLocker$State.fill(LChaseLocker$Plan;ILChaseLocker$Solver;)V -/
def fX5_fill_94  (a4 : Nat) (s0 : AS) : Option AR :=
  sI s0 a4 7 9 0 (fun s1 =>
  some (.inl none, s1))
def fX5_fill_76  (a0 : Nat) (a3 : Nat) (a4 : Nat) (s0 : AS) : Option AR :=
  gI s0 a3 8 7 (fun v1 =>
  if v1 = (-1 : Int32) then (
    fX5_fill_94 a4 s0)
  else (
    gI s0 a3 8 7 (fun v2 =>
    cV s0 a0 9 (fX5_setQuoin a0 a4 v2 s0) (qV (fun s3 =>
    fX5_fill_94 a4 s3)))))
def fX5_fill_70 (r22 : Nat → Nat → Nat → Nat → Int32 → AS → Option AR) (a0 : Nat) (a1 : Nat) (a3 : Nat) (a4 : Nat) (x5 : Int32) (s0 : AS) : Option AR :=
  lt (x5 + 1) (fun v1 =>
  r22 a0 a1 a3 a4 v1 s0)
def fX5_fill_43 (r22 : Nat → Nat → Nat → Nat → Int32 → AS → Option AR) : Nat → Nat → Nat → Nat → Nat → Int32 → Int32 → Int32 → AS → Option AR
  | 0, _, _, _, _, _, _, _, _ => none
  | n + 1, a0, a1, a3, a4, x5, x6, x7, s0 =>
    gR s0 a3 8 4 (fun q1 =>
    aI s0 q1 100 x6 (fun v2 =>
    if v2 ≤ x7 then (
      fX5_fill_70 r22 a0 a1 a3 a4 x5 s0)
    else (
      cV s0 a0 9 (fX5_movePieceIn a0 a1 a4 x6 s0) (qV (fun s3 =>
      lt (x7 + 1) (fun v4 =>
      fX5_fill_43 r22 n a0 a1 a3 a4 x5 x6 v4 s3))))))
def fX5_fill_22  : Nat → Nat → Nat → Nat → Nat → Int32 → AS → Option AR
  | 0, _, _, _, _, _, _ => none
  | n + 1, a0, a1, a3, a4, x5, s0 =>
    gI s0 a1 5 7 (fun v1 =>
    if v1 ≤ x5 then (
      fX5_fill_76 a0 a3 a4 s0)
    else (
      gR s0 a1 5 10 (fun q2 =>
      aI s0 q2 100 x5 (fun v3 =>
      fX5_fill_43 (fX5_fill_22 n) FU a0 a1 a3 a4 x5 v3 0 s0))))
def fX5_fill (a0 : Nat) (a1 : Nat) (x2 : Int32) (a3 : Nat) (s0 : AS) : Option AR :=
  if x2 < 0 then (
    some (.inl none, s0))
  else (
    if x2 < (8 : Int32) then (
      gR s0 a0 9 0 (fun q1 =>
      aR s0 q1 111 x2 (fun q2 =>
      fX5_fill_22 FU a0 a1 a3 q2 0 s0)))
    else (
      some (.inl none, s0)))
set_option maxHeartbeats 4000000 in
theorem oX5_fill_94 {Γ : CX} (C : OKC Γ cX5_fill RX5 none) (T : ∀ z ∈ (cx_c Γ).exceptionTable.toList, False) (hn : cx_nL Γ = 8) (hR : cx_fr Γ = 4 ∧ cx_lo Γ = 130) (hin : (cx_meth Γ).name = yX5_fill.name) : ∀ (a4 : Nat) (s0 : AS), OK Γ 94 [(4, .ref a4)] [] (fX5_fill_94  a4 s0) s0 := by
  intro a4 s0
  unfold fX5_fill_94
  refine ok_aload C 0 dX5_fill_94 rfl ?_
  refine ok_iconst C (v := 0) dX5_fill_96 (by decide) ?_
  refine ok_putI C flX5_107_7 dX5_fill_97 (fun s1 _ => ?_)
  exact ok_vreturn C dX5_fill_100
set_option maxHeartbeats 4000000 in
theorem oX5_fill_76 {Γ : CX} (C : OKC Γ cX5_fill RX5 none) (T : ∀ z ∈ (cx_c Γ).exceptionTable.toList, False) (hn : cx_nL Γ = 8) (hR : cx_fr Γ = 4 ∧ cx_lo Γ = 130) (hin : (cx_meth Γ).name = yX5_fill.name) : ∀ (a0 : Nat) (a3 : Nat) (a4 : Nat) (s0 : AS), OK Γ 76 [(0, .ref a0), (3, .ref a3), (4, .ref a4)] [] (fX5_fill_76  a0 a3 a4 s0) s0 := by
  intro a0 a3 a4 s0
  unfold fX5_fill_76
  refine ok_aload_n C 1 dX5_fill_76 rfl ?_
  refine ok_getI C frX5_102_8 dX5_fill_77 (fun v1 => ?_)
  refine ok_iconst C (v := (-1)) dX5_fill_80 (by decide) ?_
  refine ok_icmp_eq C 94 dX5_fill_81 (by decide) ?_ ?_
  · refine OK.sub (lv' := [(4, .ref a4)]) [2] rfl ?_
    exact oX5_fill_94 C T hn hR hin a4 s0
  · refine ok_aload_n C 0 dX5_fill_84 rfl ?_
    refine ok_aload C 2 dX5_fill_85 rfl ?_
    refine ok_aload_n C 1 dX5_fill_87 rfl ?_
    refine ok_getI C frX5_102_8 dX5_fill_88 (fun v2 => ?_)
    refine ok_callV C T [.ref a4, .int v2] (F := fX5_setQuoin a0 a4 v2) (ctX5_setQuoin (C.2.2.2.2.2.2.2.2.1) a0 a4 v2) vlX5_103 viX5_setQuoin rfl rfl (by decide) rfl (by rw [hR.1, hR.2]; decide) (Nat.le_of_ble_eq_true rfl) dX5_fill_91 (ok_qV fun s3 => ?_)
    refine OK.sub (lv' := [(4, .ref a4)]) [2] rfl ?_
    exact oX5_fill_94 C T hn hR hin a4 s3
set_option maxHeartbeats 4000000 in
theorem oX5_fill_70 {Γ : CX} (C : OKC Γ cX5_fill RX5 none) (T : ∀ z ∈ (cx_c Γ).exceptionTable.toList, False) (hn : cx_nL Γ = 8) (hR : cx_fr Γ = 4 ∧ cx_lo Γ = 130) (hin : (cx_meth Γ).name = yX5_fill.name) {r22 : Nat → Nat → Nat → Nat → Int32 → AS → Option AR} (h22 : ∀ (a0 : Nat) (a1 : Nat) (a3 : Nat) (a4 : Nat) (x5 : Int32) (s0 : AS), OK Γ 22 [(0, .ref a0), (1, .ref a1), (3, .ref a3), (4, .ref a4), (5, .int x5)] [] (r22 a0 a1 a3 a4 x5 s0) s0) : ∀ (a0 : Nat) (a1 : Nat) (a3 : Nat) (a4 : Nat) (x5 : Int32) (s0 : AS), OK Γ 70 [(0, .ref a0), (1, .ref a1), (3, .ref a3), (4, .ref a4), (5, .int x5)] [] (fX5_fill_70 r22 a0 a1 a3 a4 x5 s0) s0 := by
  intro a0 a1 a3 a4 x5 s0
  unfold fX5_fill_70
  refine ok_iincL C 4 (c := 1) (fun v1 => [(5, .int v1), (0, .ref a0), (1, .ref a1), (3, .ref a3), (4, .ref a4)]) dX5_fill_70 rfl rfl (by rw [hn]; decide) (fun _ => rfl) (fun v1 => ?_)
  refine ok_goto C 22 dX5_fill_73 (by decide) ?_
  refine OK.sub (lv' := [(0, .ref a0), (1, .ref a1), (3, .ref a3), (4, .ref a4), (5, .int v1)]) [1, 2, 3, 4, 0] rfl ?_
  exact h22 a0 a1 a3 a4 v1 s0
set_option maxHeartbeats 4000000 in
theorem oX5_fill_43 {Γ : CX} (C : OKC Γ cX5_fill RX5 none) (T : ∀ z ∈ (cx_c Γ).exceptionTable.toList, False) (hn : cx_nL Γ = 8) (hR : cx_fr Γ = 4 ∧ cx_lo Γ = 130) (hin : (cx_meth Γ).name = yX5_fill.name) {r22 : Nat → Nat → Nat → Nat → Int32 → AS → Option AR} (h22 : ∀ (a0 : Nat) (a1 : Nat) (a3 : Nat) (a4 : Nat) (x5 : Int32) (s0 : AS), OK Γ 22 [(0, .ref a0), (1, .ref a1), (3, .ref a3), (4, .ref a4), (5, .int x5)] [] (r22 a0 a1 a3 a4 x5 s0) s0) : ∀ (n : Nat) (a0 : Nat) (a1 : Nat) (a3 : Nat) (a4 : Nat) (x5 : Int32) (x6 : Int32) (x7 : Int32) (s0 : AS), OK Γ 43 [(0, .ref a0), (1, .ref a1), (3, .ref a3), (4, .ref a4), (5, .int x5), (6, .int x6), (7, .int x7)] [] (fX5_fill_43 r22 n a0 a1 a3 a4 x5 x6 x7 s0) s0 := by
  intro n
  induction n with
  | zero => intro _ _ _ _ _ _ _ s0; exact OK.none
  | succ n ih =>
    intro a0 a1 a3 a4 x5 x6 x7 s0
    rw [fX5_fill_43]
    refine ok_iload C 6 dX5_fill_43 rfl ?_
    refine ok_aload_n C 2 dX5_fill_45 rfl ?_
    refine ok_getR C frX5_93_8 dX5_fill_46 (fun q1 => ?_)
    refine ok_iload C 5 dX5_fill_49 rfl ?_
    refine ok_iald C dX5_fill_51 (fun v2 => ?_)
    refine ok_icmp_ge C 70 dX5_fill_52 (by decide) ?_ ?_
    · refine OK.sub (lv' := [(0, .ref a0), (1, .ref a1), (3, .ref a3), (4, .ref a4), (5, .int x5)]) [0, 1, 2, 3, 4] rfl ?_
      exact oX5_fill_70 C T hn hR hin h22 a0 a1 a3 a4 x5 s0
    · refine ok_aload_n C 0 dX5_fill_55 rfl ?_
      refine ok_aload_n C 1 dX5_fill_56 rfl ?_
      refine ok_aload C 3 dX5_fill_57 rfl ?_
      refine ok_iload C 5 dX5_fill_59 rfl ?_
      refine ok_callV C T [.ref a1, .ref a4, .int x6] (F := fX5_movePieceIn a0 a1 a4 x6) (ctX5_movePieceIn (C.2.2.2.2.2.2.2.2.1) a0 a1 a4 x6) vlX5_98 viX5_movePieceIn rfl rfl (by decide) rfl (by rw [hR.1, hR.2]; decide) (Nat.le_of_ble_eq_true rfl) dX5_fill_61 (ok_qV fun s3 => ?_)
      refine ok_iincL C 6 (c := 1) (fun v4 => [(7, .int v4), (0, .ref a0), (1, .ref a1), (3, .ref a3), (4, .ref a4), (5, .int x5), (6, .int x6)]) dX5_fill_64 rfl rfl (by rw [hn]; decide) (fun _ => rfl) (fun v4 => ?_)
      refine ok_goto C 43 dX5_fill_67 (by decide) ?_
      refine OK.sub (lv' := [(0, .ref a0), (1, .ref a1), (3, .ref a3), (4, .ref a4), (5, .int x5), (6, .int x6), (7, .int v4)]) [1, 2, 3, 4, 5, 6, 0] rfl ?_
      exact ih a0 a1 a3 a4 x5 x6 v4 s3
set_option maxHeartbeats 4000000 in
theorem oX5_fill_22 {Γ : CX} (C : OKC Γ cX5_fill RX5 none) (T : ∀ z ∈ (cx_c Γ).exceptionTable.toList, False) (hn : cx_nL Γ = 8) (hR : cx_fr Γ = 4 ∧ cx_lo Γ = 130) (hin : (cx_meth Γ).name = yX5_fill.name) : ∀ (n : Nat) (a0 : Nat) (a1 : Nat) (a3 : Nat) (a4 : Nat) (x5 : Int32) (s0 : AS), OK Γ 22 [(0, .ref a0), (1, .ref a1), (3, .ref a3), (4, .ref a4), (5, .int x5)] [] (fX5_fill_22 n a0 a1 a3 a4 x5 s0) s0 := by
  intro n
  induction n with
  | zero => intro _ _ _ _ _ s0; exact OK.none
  | succ n ih =>
    intro a0 a1 a3 a4 x5 s0
    rw [fX5_fill_22]
    refine ok_iload C 4 dX5_fill_22 rfl ?_
    refine ok_aload_n C 1 dX5_fill_24 rfl ?_
    refine ok_getI C frX5_85_5 dX5_fill_25 (fun v1 => ?_)
    refine ok_icmp_ge C 76 dX5_fill_28 (by decide) ?_ ?_
    · refine OK.sub (lv' := [(0, .ref a0), (3, .ref a3), (4, .ref a4)]) [0, 2, 3] rfl ?_
      exact oX5_fill_76 C T hn hR hin a0 a3 a4 s0
    · refine ok_aload_n C 1 dX5_fill_31 rfl ?_
      refine ok_getR C frX5_90_5 dX5_fill_32 (fun q2 => ?_)
      refine ok_iload C 4 dX5_fill_35 rfl ?_
      refine ok_iald C dX5_fill_37 (fun v3 => ?_)
      refine ok_istore C (i := 6) [(6, .int v3), (0, .ref a0), (1, .ref a1), (3, .ref a3), (4, .ref a4), (5, .int x5)] dX5_fill_38 (by rw [hn]; decide) rfl ?_
      refine ok_iconst C (v := 0) dX5_fill_40 (by decide) ?_
      refine ok_istore C (i := 7) [(7, .int 0), (6, .int v3), (0, .ref a0), (1, .ref a1), (3, .ref a3), (4, .ref a4), (5, .int x5)] dX5_fill_41 (by rw [hn]; decide) rfl ?_
      refine OK.sub (lv' := [(0, .ref a0), (1, .ref a1), (3, .ref a3), (4, .ref a4), (5, .int x5), (6, .int v3), (7, .int 0)]) [2, 3, 4, 5, 6, 1, 0] rfl ?_
      exact oX5_fill_43 C T hn hR hin ih FU a0 a1 a3 a4 x5 v3 0 s0
set_option maxHeartbeats 4000000 in
theorem oX5_fill {Γ : CX} (C : OKC Γ cX5_fill RX5 none) (T : ∀ z ∈ (cx_c Γ).exceptionTable.toList, False) (hn : cx_nL Γ = 8) (hR : cx_fr Γ = 4 ∧ cx_lo Γ = 130) (hin : (cx_meth Γ).name = yX5_fill.name) : ∀ (a0 : Nat) (a1 : Nat) (x2 : Int32) (a3 : Nat) (s0 : AS), OK Γ 0 [(0, .ref a0), (1, .ref a1), (2, .int x2), (3, .ref a3)] [] (fX5_fill a0 a1 x2 a3 s0) s0 := by
  intro a0 a1 x2 a3 s0
  unfold fX5_fill
  refine ok_iload_n C 2 dX5_fill_0 rfl ?_
  refine ok_if_lt C 10 dX5_fill_1 (by decide) ?_ ?_
  · exact ok_vreturn C dX5_fill_10
  · refine ok_iload_n C 2 dX5_fill_4 rfl ?_
    refine ok_bipush C (v := 8) dX5_fill_5 (by decide) ?_
    refine ok_icmp_lt C 11 dX5_fill_7 (by decide) ?_ ?_
    · refine ok_aload_n C 0 dX5_fill_11 rfl ?_
      refine ok_getR C frX5_11_9 dX5_fill_12 (fun q1 => ?_)
      refine ok_iload_n C 2 dX5_fill_15 rfl ?_
      refine ok_aald C 111 7 (fun _ => rfl) (by decide) dX5_fill_16 (fun q2 => ?_)
      refine ok_astore C (i := 4) [(4, .ref q2), (0, .ref a0), (1, .ref a1), (2, .int x2), (3, .ref a3)] dX5_fill_17 (by rw [hn]; decide) rfl ?_
      refine ok_iconst C (v := 0) dX5_fill_19 (by decide) ?_
      refine ok_istore C (i := 5) [(5, .int 0), (4, .ref q2), (0, .ref a0), (1, .ref a1), (2, .int x2), (3, .ref a3)] dX5_fill_20 (by rw [hn]; decide) rfl ?_
      refine OK.sub (lv' := [(0, .ref a0), (1, .ref a1), (3, .ref a3), (4, .ref q2), (5, .int 0)]) [2, 3, 5, 1, 0] rfl ?_
      exact oX5_fill_22 C T hn hR hin FU a0 a1 a3 q2 0 s0
    · exact ok_vreturn C dX5_fill_10
theorem ctX5_fill {l : Launch} (hl : l.stackTraces = false) {D : va_G} {dA : Nat → ClassId} {B0 : Nat} (a0 : Nat) (a1 : Nat) (x2 : Int32) (a3 : Nat) : Ct l D dA B0 yX5_fill (.code yX5_fill cX5_fill 8 (none) :: ax_ALL) 4 130 [.ref a0, .ref a1, .int x2, .ref a3] (fX5_fill a0 a1 x2 a3) :=
  Ct.of hl (by decide +kernel) (Nat.le_of_ble_eq_true rfl) fun Γ C _ _ _ _ e5 e6 e7 T hin => oX5_fill C T e5 ⟨e6, e7⟩ hin a0 a1 x2 a3 _
/-! ChaseLocker$State.empty(I)V -/
def fX5_empty_47  (a0 : Nat) (a2 : Nat) (s0 : AS) : Option AR :=
  cV s0 a2 7 (fX3_dropPieces a2 s0) (qV (fun s1 =>
  cV s1 a0 9 (fX5_removeQuoin a0 a2 s1) (qV (fun s2 =>
  sI s2 a2 7 9 0 (fun s3 =>
  some (.inl none, s3))))))
def fX5_empty_20  : Nat → Nat → Nat → Int32 → AS → Option AR
  | 0, _, _, _, _ => none
  | n + 1, a0, a2, x3, s0 =>
    if (10 : Int32) ≤ x3 then (
      fX5_empty_47 a0 a2 s0)
    else (
      gR s0 a0 9 1 (fun q1 =>
      aI s0 q1 100 x3 (fun v2 =>
      gR s0 a2 7 6 (fun q3 =>
      aI s0 q3 100 x3 (fun v4 =>
      uI s0 q1 x3 (v2 + v4) (fun s5 =>
      lt (x3 + 1) (fun v6 =>
      fX5_empty_20 n a0 a2 v6 s5)))))))
def fX5_empty (a0 : Nat) (x1 : Int32) (s0 : AS) : Option AR :=
  if x1 < 0 then (
    some (.inl none, s0))
  else (
    if x1 < (8 : Int32) then (
      gR s0 a0 9 0 (fun q1 =>
      aR s0 q1 111 x1 (fun q2 =>
      fX5_empty_20 FU a0 q2 0 s0)))
    else (
      some (.inl none, s0)))
set_option maxHeartbeats 4000000 in
theorem oX5_empty_47 {Γ : CX} (C : OKC Γ cX5_empty RX5 none) (T : ∀ z ∈ (cx_c Γ).exceptionTable.toList, False) (hn : cx_nL Γ = 4) (hR : cx_fr Γ = 3 ∧ cx_lo Γ = 101) (hin : (cx_meth Γ).name = yX5_empty.name) : ∀ (a0 : Nat) (a2 : Nat) (s0 : AS), OK Γ 47 [(0, .ref a0), (2, .ref a2)] [] (fX5_empty_47  a0 a2 s0) s0 := by
  intro a0 a2 s0
  unfold fX5_empty_47
  refine ok_aload_n C 1 dX5_empty_47 rfl ?_
  refine ok_callV C T [] (F := fX3_dropPieces a2) (ctX3_dropPieces (C.2.2.2.2.2.2.2.2.1) a2) vlX5_110 viX3_dropPieces rfl rfl (by decide) rfl (by rw [hR.1, hR.2]; decide) (Nat.le_of_ble_eq_true rfl) dX5_empty_48 (ok_qV fun s1 => ?_)
  refine ok_aload_n C 0 dX5_empty_51 rfl ?_
  refine ok_aload_n C 1 dX5_empty_52 rfl ?_
  refine ok_callV C T [.ref a2] (F := fX5_removeQuoin a0 a2) (ctX5_removeQuoin (C.2.2.2.2.2.2.2.2.1) a0 a2) vlX5_113 viX5_removeQuoin rfl rfl (by decide) rfl (by rw [hR.1, hR.2]; decide) (Nat.le_of_ble_eq_true rfl) dX5_empty_53 (ok_qV fun s2 => ?_)
  refine ok_aload_n C 1 dX5_empty_56 rfl ?_
  refine ok_iconst C (v := 0) dX5_empty_57 (by decide) ?_
  refine ok_putI C flX5_107_7 dX5_empty_58 (fun s3 _ => ?_)
  exact ok_vreturn C dX5_empty_61
set_option maxHeartbeats 4000000 in
theorem oX5_empty_20 {Γ : CX} (C : OKC Γ cX5_empty RX5 none) (T : ∀ z ∈ (cx_c Γ).exceptionTable.toList, False) (hn : cx_nL Γ = 4) (hR : cx_fr Γ = 3 ∧ cx_lo Γ = 101) (hin : (cx_meth Γ).name = yX5_empty.name) : ∀ (n : Nat) (a0 : Nat) (a2 : Nat) (x3 : Int32) (s0 : AS), OK Γ 20 [(0, .ref a0), (2, .ref a2), (3, .int x3)] [] (fX5_empty_20 n a0 a2 x3 s0) s0 := by
  intro n
  induction n with
  | zero => intro _ _ _ s0; exact OK.none
  | succ n ih =>
    intro a0 a2 x3 s0
    rw [fX5_empty_20]
    refine ok_iload_n C 2 dX5_empty_20 rfl ?_
    refine ok_bipush C (v := 10) dX5_empty_21 (by decide) ?_
    refine ok_icmp_ge C 47 dX5_empty_23 (by decide) ?_ ?_
    · refine OK.sub (lv' := [(0, .ref a0), (2, .ref a2)]) [0, 1] rfl ?_
      exact oX5_empty_47 C T hn hR hin a0 a2 s0
    · refine ok_aload_n C 0 dX5_empty_26 rfl ?_
      refine ok_getR C frX5_17_9 dX5_empty_27 (fun q1 => ?_)
      refine ok_iload_n C 2 dX5_empty_30 rfl ?_
      refine ok_dup2 C dX5_empty_31 rfl rfl ?_
      refine ok_iald C dX5_empty_32 (fun v2 => ?_)
      refine ok_aload_n C 1 dX5_empty_33 rfl ?_
      refine ok_getR C frX5_60_7 dX5_empty_34 (fun q3 => ?_)
      refine ok_iload_n C 2 dX5_empty_37 rfl ?_
      refine ok_iald C dX5_empty_38 (fun v4 => ?_)
      refine ok_iadd C dX5_empty_39 ?_
      refine ok_iast C dX5_empty_40 (fun s5 _ => ?_)
      refine ok_iincL C 2 (c := 1) (fun v6 => [(3, .int v6), (0, .ref a0), (2, .ref a2)]) dX5_empty_41 rfl rfl (by rw [hn]; decide) (fun _ => rfl) (fun v6 => ?_)
      refine ok_goto C 20 dX5_empty_44 (by decide) ?_
      refine OK.sub (lv' := [(0, .ref a0), (2, .ref a2), (3, .int v6)]) [1, 2, 0] rfl ?_
      exact ih a0 a2 v6 s5
set_option maxHeartbeats 4000000 in
theorem oX5_empty {Γ : CX} (C : OKC Γ cX5_empty RX5 none) (T : ∀ z ∈ (cx_c Γ).exceptionTable.toList, False) (hn : cx_nL Γ = 4) (hR : cx_fr Γ = 3 ∧ cx_lo Γ = 101) (hin : (cx_meth Γ).name = yX5_empty.name) : ∀ (a0 : Nat) (x1 : Int32) (s0 : AS), OK Γ 0 [(0, .ref a0), (1, .int x1)] [] (fX5_empty a0 x1 s0) s0 := by
  intro a0 x1 s0
  unfold fX5_empty
  refine ok_iload_n C 1 dX5_empty_0 rfl ?_
  refine ok_if_lt C 10 dX5_empty_1 (by decide) ?_ ?_
  · exact ok_vreturn C dX5_empty_10
  · refine ok_iload_n C 1 dX5_empty_4 rfl ?_
    refine ok_bipush C (v := 8) dX5_empty_5 (by decide) ?_
    refine ok_icmp_lt C 11 dX5_empty_7 (by decide) ?_ ?_
    · refine ok_aload_n C 0 dX5_empty_11 rfl ?_
      refine ok_getR C frX5_11_9 dX5_empty_12 (fun q1 => ?_)
      refine ok_iload_n C 1 dX5_empty_15 rfl ?_
      refine ok_aald C 111 7 (fun _ => rfl) (by decide) dX5_empty_16 (fun q2 => ?_)
      refine ok_astore_n C (i := 2) [(2, .ref q2), (0, .ref a0), (1, .int x1)] dX5_empty_17 rfl (by rw [hn]; decide) rfl ?_
      refine ok_iconst C (v := 0) dX5_empty_18 (by decide) ?_
      refine ok_istore_n C (i := 3) [(3, .int 0), (2, .ref q2), (0, .ref a0), (1, .int x1)] dX5_empty_19 rfl (by rw [hn]; decide) rfl ?_
      refine OK.sub (lv' := [(0, .ref a0), (2, .ref q2), (3, .int 0)]) [2, 1, 0] rfl ?_
      exact oX5_empty_20 C T hn hR hin FU a0 q2 0 s0
    · exact ok_vreturn C dX5_empty_10
theorem ctX5_empty {l : Launch} (hl : l.stackTraces = false) {D : va_G} {dA : Nat → ClassId} {B0 : Nat} (a0 : Nat) (x1 : Int32) : Ct l D dA B0 yX5_empty (.code yX5_empty cX5_empty 4 (none) :: ax_ALL) 3 101 [.ref a0, .int x1] (fX5_empty a0 x1) :=
  Ct.of hl (by decide +kernel) (Nat.le_of_ble_eq_true rfl) fun Γ C _ _ _ _ e5 e6 e7 T hin => oX5_empty C T e5 ⟨e6, e7⟩ hin a0 x1 _
/-! ChaseLocker$State.dropLooseRows(LChaseLocker$Plan;)I -/
def fX5_dropLooseRows_80  (a0 : Nat) (x2 : Int32) (s0 : AS) : Option AR :=
  gI s0 a0 9 7 (fun v1 =>
  sI s0 a0 9 7 (v1 + x2) (fun s2 =>
  some (.inl (some (.int x2)), s2)))
def fX5_dropLooseRows_74 (r4 : Nat → Nat → Int32 → Int32 → AS → Option AR) (a0 : Nat) (a1 : Nat) (x2 : Int32) (x3 : Int32) (s0 : AS) : Option AR :=
  lt (x3 + 1) (fun v1 =>
  r4 a0 a1 x2 v1 s0)
def fX5_dropLooseRows_4  : Nat → Nat → Nat → Int32 → Int32 → AS → Option AR
  | 0, _, _, _, _, _ => none
  | n + 1, a0, a1, x2, x3, s0 =>
    if (8 : Int32) ≤ x3 then (
      fX5_dropLooseRows_80 a0 x2 s0)
    else (
      gR s0 a0 9 0 (fun q1 =>
      aR s0 q1 111 x3 (fun q2 =>
      gI s0 q2 7 1 (fun v3 =>
      if v3 ≤ 0 then (
        fX5_dropLooseRows_74 (fX5_dropLooseRows_4 n) a0 a1 x2 x3 s0)
      else (
        gR s0 a0 9 0 (fun q4 =>
        aR s0 q4 111 x3 (fun q5 =>
        cV s0 q5 7 (fX3_loosenessIn q5 a1 s0) (qI (fun v6 s7 =>
        gI s7 a1 5 6 (fun v8 =>
        if v6 ≤ v8 then (
          fX5_dropLooseRows_74 (fX5_dropLooseRows_4 n) a0 a1 x2 x3 s7)
        else (
          gI s7 a0 9 6 (fun v9 =>
          gR s7 a0 9 0 (fun q10 =>
          aR s7 q10 111 x3 (fun q11 =>
          gI s7 q11 7 1 (fun v12 =>
          sI s7 a0 9 6 (v9 + v12) (fun s13 =>
          gR s13 a0 9 0 (fun q14 =>
          aR s13 q14 111 x3 (fun q15 =>
          cV s13 q15 7 (fX3_dropBlocks q15 s13) (qV (fun s16 =>
          cV s16 a0 9 (fX5_empty a0 x3 s16) (qV (fun s17 =>
          lt (x2 + 1) (fun v18 =>
          fX5_dropLooseRows_74 (fX5_dropLooseRows_4 n) a0 a1 v18 x3 s17)))))))))))))))))))))))
def fX5_dropLooseRows (a0 : Nat) (a1 : Nat) (s0 : AS) : Option AR :=
  fX5_dropLooseRows_4 FU a0 a1 0 0 s0
set_option maxHeartbeats 4000000 in
theorem oX5_dropLooseRows_80 {Γ : CX} (C : OKC Γ cX5_dropLooseRows RX5 (some (.int))) (T : ∀ z ∈ (cx_c Γ).exceptionTable.toList, False) (hn : cx_nL Γ = 4) (hR : cx_fr Γ = 4 ∧ cx_lo Γ = 124) (hin : (cx_meth Γ).name = yX5_dropLooseRows.name) : ∀ (a0 : Nat) (x2 : Int32) (s0 : AS), OK Γ 80 [(0, .ref a0), (2, .int x2)] [] (fX5_dropLooseRows_80  a0 x2 s0) s0 := by
  intro a0 x2 s0
  unfold fX5_dropLooseRows_80
  refine ok_aload_n C 0 dX5_dropLooseRows_80 rfl ?_
  refine ok_dup C dX5_dropLooseRows_81 rfl ?_
  refine ok_getI C frX5_41_9 dX5_dropLooseRows_82 (fun v1 => ?_)
  refine ok_iload_n C 1 dX5_dropLooseRows_85 rfl ?_
  refine ok_iadd C dX5_dropLooseRows_86 ?_
  refine ok_putI C flX5_41_9 dX5_dropLooseRows_87 (fun s2 _ => ?_)
  refine ok_iload_n C 1 dX5_dropLooseRows_90 rfl ?_
  exact ok_ireturn C dX5_dropLooseRows_91
set_option maxHeartbeats 4000000 in
theorem oX5_dropLooseRows_74 {Γ : CX} (C : OKC Γ cX5_dropLooseRows RX5 (some (.int))) (T : ∀ z ∈ (cx_c Γ).exceptionTable.toList, False) (hn : cx_nL Γ = 4) (hR : cx_fr Γ = 4 ∧ cx_lo Γ = 124) (hin : (cx_meth Γ).name = yX5_dropLooseRows.name) {r4 : Nat → Nat → Int32 → Int32 → AS → Option AR} (h4 : ∀ (a0 : Nat) (a1 : Nat) (x2 : Int32) (x3 : Int32) (s0 : AS), OK Γ 4 [(0, .ref a0), (1, .ref a1), (2, .int x2), (3, .int x3)] [] (r4 a0 a1 x2 x3 s0) s0) : ∀ (a0 : Nat) (a1 : Nat) (x2 : Int32) (x3 : Int32) (s0 : AS), OK Γ 74 [(0, .ref a0), (1, .ref a1), (2, .int x2), (3, .int x3)] [] (fX5_dropLooseRows_74 r4 a0 a1 x2 x3 s0) s0 := by
  intro a0 a1 x2 x3 s0
  unfold fX5_dropLooseRows_74
  refine ok_iincL C 3 (c := 1) (fun v1 => [(3, .int v1), (0, .ref a0), (1, .ref a1), (2, .int x2)]) dX5_dropLooseRows_74 rfl rfl (by rw [hn]; decide) (fun _ => rfl) (fun v1 => ?_)
  refine ok_goto C 4 dX5_dropLooseRows_77 (by decide) ?_
  refine OK.sub (lv' := [(0, .ref a0), (1, .ref a1), (2, .int x2), (3, .int v1)]) [1, 2, 3, 0] rfl ?_
  exact h4 a0 a1 x2 v1 s0
set_option maxHeartbeats 4000000 in
theorem oX5_dropLooseRows_4 {Γ : CX} (C : OKC Γ cX5_dropLooseRows RX5 (some (.int))) (T : ∀ z ∈ (cx_c Γ).exceptionTable.toList, False) (hn : cx_nL Γ = 4) (hR : cx_fr Γ = 4 ∧ cx_lo Γ = 124) (hin : (cx_meth Γ).name = yX5_dropLooseRows.name) : ∀ (n : Nat) (a0 : Nat) (a1 : Nat) (x2 : Int32) (x3 : Int32) (s0 : AS), OK Γ 4 [(0, .ref a0), (1, .ref a1), (2, .int x2), (3, .int x3)] [] (fX5_dropLooseRows_4 n a0 a1 x2 x3 s0) s0 := by
  intro n
  induction n with
  | zero => intro _ _ _ _ s0; exact OK.none
  | succ n ih =>
    intro a0 a1 x2 x3 s0
    rw [fX5_dropLooseRows_4]
    refine ok_iload_n C 3 dX5_dropLooseRows_4 rfl ?_
    refine ok_bipush C (v := 8) dX5_dropLooseRows_5 (by decide) ?_
    refine ok_icmp_ge C 80 dX5_dropLooseRows_7 (by decide) ?_ ?_
    · refine OK.sub (lv' := [(0, .ref a0), (2, .int x2)]) [0, 2] rfl ?_
      exact oX5_dropLooseRows_80 C T hn hR hin a0 x2 s0
    · refine ok_aload_n C 0 dX5_dropLooseRows_10 rfl ?_
      refine ok_getR C frX5_11_9 dX5_dropLooseRows_11 (fun q1 => ?_)
      refine ok_iload_n C 3 dX5_dropLooseRows_14 rfl ?_
      refine ok_aald C 111 7 (fun _ => rfl) (by decide) dX5_dropLooseRows_15 (fun q2 => ?_)
      refine ok_getI C frX5_54_7 dX5_dropLooseRows_16 (fun v3 => ?_)
      refine ok_if_le C 74 dX5_dropLooseRows_19 (by decide) ?_ ?_
      · exact oX5_dropLooseRows_74 C T hn hR hin ih a0 a1 x2 x3 s0
      · refine ok_aload_n C 0 dX5_dropLooseRows_22 rfl ?_
        refine ok_getR C frX5_11_9 dX5_dropLooseRows_23 (fun q4 => ?_)
        refine ok_iload_n C 3 dX5_dropLooseRows_26 rfl ?_
        refine ok_aald C 111 7 (fun _ => rfl) (by decide) dX5_dropLooseRows_27 (fun q5 => ?_)
        refine ok_aload_n C 1 dX5_dropLooseRows_28 rfl ?_
        refine ok_callV C T [.ref a1] (F := fX3_loosenessIn q5 a1) (ctX3_loosenessIn (C.2.2.2.2.2.2.2.2.1) q5 a1) vlX5_133 viX3_loosenessIn rfl rfl (by decide) rfl (by rw [hR.1, hR.2]; decide) (Nat.le_of_ble_eq_true rfl) dX5_dropLooseRows_29 (ok_qI fun v6 s7 => ?_)
        refine ok_aload_n C 1 dX5_dropLooseRows_32 rfl ?_
        refine ok_getI C frX5_136_5 dX5_dropLooseRows_33 (fun v8 => ?_)
        refine ok_icmp_le C 74 dX5_dropLooseRows_36 (by decide) ?_ ?_
        · exact oX5_dropLooseRows_74 C T hn hR hin ih a0 a1 x2 x3 s7
        · refine ok_aload_n C 0 dX5_dropLooseRows_39 rfl ?_
          refine ok_dup C dX5_dropLooseRows_40 rfl ?_
          refine ok_getI C frX5_38_9 dX5_dropLooseRows_41 (fun v9 => ?_)
          refine ok_aload_n C 0 dX5_dropLooseRows_44 rfl ?_
          refine ok_getR C frX5_11_9 dX5_dropLooseRows_45 (fun q10 => ?_)
          refine ok_iload_n C 3 dX5_dropLooseRows_48 rfl ?_
          refine ok_aald C 111 7 (fun _ => rfl) (by decide) dX5_dropLooseRows_49 (fun q11 => ?_)
          refine ok_getI C frX5_54_7 dX5_dropLooseRows_50 (fun v12 => ?_)
          refine ok_iadd C dX5_dropLooseRows_53 ?_
          refine ok_putI C flX5_38_9 dX5_dropLooseRows_54 (fun s13 _ => ?_)
          refine ok_aload_n C 0 dX5_dropLooseRows_57 rfl ?_
          refine ok_getR C frX5_11_9 dX5_dropLooseRows_58 (fun q14 => ?_)
          refine ok_iload_n C 3 dX5_dropLooseRows_61 rfl ?_
          refine ok_aald C 111 7 (fun _ => rfl) (by decide) dX5_dropLooseRows_62 (fun q15 => ?_)
          refine ok_callV C T [] (F := fX3_dropBlocks q15) (ctX3_dropBlocks (C.2.2.2.2.2.2.2.2.1) q15) vlX5_139 viX3_dropBlocks rfl rfl (by decide) rfl (by rw [hR.1, hR.2]; decide) (Nat.le_of_ble_eq_true rfl) dX5_dropLooseRows_63 (ok_qV fun s16 => ?_)
          refine ok_aload_n C 0 dX5_dropLooseRows_66 rfl ?_
          refine ok_iload_n C 3 dX5_dropLooseRows_67 rfl ?_
          refine ok_callV C T [.int x3] (F := fX5_empty a0 x3) (ctX5_empty (C.2.2.2.2.2.2.2.2.1) a0 x3) vlX5_142 viX5_empty rfl rfl (by decide) rfl (by rw [hR.1, hR.2]; decide) (Nat.le_of_ble_eq_true rfl) dX5_dropLooseRows_68 (ok_qV fun s17 => ?_)
          refine ok_iincL C 2 (c := 1) (fun v18 => [(2, .int v18), (0, .ref a0), (1, .ref a1), (3, .int x3)]) dX5_dropLooseRows_71 rfl rfl (by rw [hn]; decide) (fun _ => rfl) (fun v18 => ?_)
          refine OK.sub (lv' := [(0, .ref a0), (1, .ref a1), (2, .int v18), (3, .int x3)]) [1, 2, 0, 3] rfl ?_
          exact oX5_dropLooseRows_74 C T hn hR hin ih a0 a1 v18 x3 s17
set_option maxHeartbeats 4000000 in
theorem oX5_dropLooseRows {Γ : CX} (C : OKC Γ cX5_dropLooseRows RX5 (some (.int))) (T : ∀ z ∈ (cx_c Γ).exceptionTable.toList, False) (hn : cx_nL Γ = 4) (hR : cx_fr Γ = 4 ∧ cx_lo Γ = 124) (hin : (cx_meth Γ).name = yX5_dropLooseRows.name) : ∀ (a0 : Nat) (a1 : Nat) (s0 : AS), OK Γ 0 [(0, .ref a0), (1, .ref a1)] [] (fX5_dropLooseRows a0 a1 s0) s0 := by
  intro a0 a1 s0
  unfold fX5_dropLooseRows
  refine ok_iconst C (v := 0) dX5_dropLooseRows_0 (by decide) ?_
  refine ok_istore_n C (i := 2) [(2, .int 0), (0, .ref a0), (1, .ref a1)] dX5_dropLooseRows_1 rfl (by rw [hn]; decide) rfl ?_
  refine ok_iconst C (v := 0) dX5_dropLooseRows_2 (by decide) ?_
  refine ok_istore_n C (i := 3) [(3, .int 0), (2, .int 0), (0, .ref a0), (1, .ref a1)] dX5_dropLooseRows_3 rfl (by rw [hn]; decide) rfl ?_
  refine OK.sub (lv' := [(0, .ref a0), (1, .ref a1), (2, .int 0), (3, .int 0)]) [2, 3, 1, 0] rfl ?_
  exact oX5_dropLooseRows_4 C T hn hR hin FU a0 a1 0 0 s0
theorem ctX5_dropLooseRows {l : Launch} (hl : l.stackTraces = false) {D : va_G} {dA : Nat → ClassId} {B0 : Nat} (a0 : Nat) (a1 : Nat) : Ct l D dA B0 yX5_dropLooseRows (.code yX5_dropLooseRows cX5_dropLooseRows 4 (some (.int)) :: ax_ALL) 4 124 [.ref a0, .ref a1] (fX5_dropLooseRows a0 a1) :=
  Ct.of hl (by decide +kernel) (Nat.le_of_ble_eq_true rfl) fun Γ C _ _ _ _ e5 e6 e7 T hin => oX5_dropLooseRows C T e5 ⟨e6, e7⟩ hin a0 a1 _
/-! ChaseLocker$State.isFirm(LChaseLocker$Plan;)Z -/
def fX5_isFirm_35 (r2 : Nat → Nat → Int32 → AS → Option AR) (a0 : Nat) (a1 : Nat) (x2 : Int32) (s0 : AS) : Option AR :=
  lt (x2 + 1) (fun v1 =>
  r2 a0 a1 v1 s0)
def fX5_isFirm_2  : Nat → Nat → Nat → Int32 → AS → Option AR
  | 0, _, _, _, _ => none
  | n + 1, a0, a1, x2, s0 =>
    if (8 : Int32) ≤ x2 then (
      rZ 1 s0)
    else (
      gR s0 a0 9 0 (fun q1 =>
      aR s0 q1 111 x2 (fun q2 =>
      gI s0 q2 7 1 (fun v3 =>
      if v3 ≤ 0 then (
        fX5_isFirm_35 (fX5_isFirm_2 n) a0 a1 x2 s0)
      else (
        gR s0 a0 9 0 (fun q4 =>
        aR s0 q4 111 x2 (fun q5 =>
        cV s0 q5 7 (fX3_isFirmIn q5 a1 s0) (qI (fun v6 s7 =>
        if v6 = 0 then (
          rZ 0 s7)
        else (
          fX5_isFirm_35 (fX5_isFirm_2 n) a0 a1 x2 s7))))))))))
def fX5_isFirm (a0 : Nat) (a1 : Nat) (s0 : AS) : Option AR :=
  fX5_isFirm_2 FU a0 a1 0 s0
set_option maxHeartbeats 4000000 in
theorem oX5_isFirm_35 {Γ : CX} (C : OKC Γ cX5_isFirm RX5 (some (.boolean))) (T : ∀ z ∈ (cx_c Γ).exceptionTable.toList, False) (hn : cx_nL Γ = 3) (hR : cx_fr Γ = 4 ∧ cx_lo Γ = 123) (hin : (cx_meth Γ).name = yX5_isFirm.name) {r2 : Nat → Nat → Int32 → AS → Option AR} (h2 : ∀ (a0 : Nat) (a1 : Nat) (x2 : Int32) (s0 : AS), OK Γ 2 [(0, .ref a0), (1, .ref a1), (2, .int x2)] [] (r2 a0 a1 x2 s0) s0) : ∀ (a0 : Nat) (a1 : Nat) (x2 : Int32) (s0 : AS), OK Γ 35 [(0, .ref a0), (1, .ref a1), (2, .int x2)] [] (fX5_isFirm_35 r2 a0 a1 x2 s0) s0 := by
  intro a0 a1 x2 s0
  unfold fX5_isFirm_35
  refine ok_iincL C 2 (c := 1) (fun v1 => [(2, .int v1), (0, .ref a0), (1, .ref a1)]) dX5_isFirm_35 rfl rfl (by rw [hn]; decide) (fun _ => rfl) (fun v1 => ?_)
  refine ok_goto C 2 dX5_isFirm_38 (by decide) ?_
  refine OK.sub (lv' := [(0, .ref a0), (1, .ref a1), (2, .int v1)]) [1, 2, 0] rfl ?_
  exact h2 a0 a1 v1 s0
set_option maxHeartbeats 4000000 in
theorem oX5_isFirm_2 {Γ : CX} (C : OKC Γ cX5_isFirm RX5 (some (.boolean))) (T : ∀ z ∈ (cx_c Γ).exceptionTable.toList, False) (hn : cx_nL Γ = 3) (hR : cx_fr Γ = 4 ∧ cx_lo Γ = 123) (hin : (cx_meth Γ).name = yX5_isFirm.name) : ∀ (n : Nat) (a0 : Nat) (a1 : Nat) (x2 : Int32) (s0 : AS), OK Γ 2 [(0, .ref a0), (1, .ref a1), (2, .int x2)] [] (fX5_isFirm_2 n a0 a1 x2 s0) s0 := by
  intro n
  induction n with
  | zero => intro _ _ _ s0; exact OK.none
  | succ n ih =>
    intro a0 a1 x2 s0
    rw [fX5_isFirm_2]
    refine ok_iload_n C 2 dX5_isFirm_2 rfl ?_
    refine ok_bipush C (v := 8) dX5_isFirm_3 (by decide) ?_
    refine ok_icmp_ge C 41 dX5_isFirm_5 (by decide) ?_ ?_
    · refine ok_iconst C (v := 1) dX5_isFirm_41 (by decide) ?_
      exact ok_zreturn C dX5_isFirm_42
    · refine ok_aload_n C 0 dX5_isFirm_8 rfl ?_
      refine ok_getR C frX5_11_9 dX5_isFirm_9 (fun q1 => ?_)
      refine ok_iload_n C 2 dX5_isFirm_12 rfl ?_
      refine ok_aald C 111 7 (fun _ => rfl) (by decide) dX5_isFirm_13 (fun q2 => ?_)
      refine ok_getI C frX5_54_7 dX5_isFirm_14 (fun v3 => ?_)
      refine ok_if_le C 35 dX5_isFirm_17 (by decide) ?_ ?_
      · exact oX5_isFirm_35 C T hn hR hin ih a0 a1 x2 s0
      · refine ok_aload_n C 0 dX5_isFirm_20 rfl ?_
        refine ok_getR C frX5_11_9 dX5_isFirm_21 (fun q4 => ?_)
        refine ok_iload_n C 2 dX5_isFirm_24 rfl ?_
        refine ok_aald C 111 7 (fun _ => rfl) (by decide) dX5_isFirm_25 (fun q5 => ?_)
        refine ok_aload_n C 1 dX5_isFirm_26 rfl ?_
        refine ok_callV C T [.ref a1] (F := fX3_isFirmIn q5 a1) (ctX3_isFirmIn (C.2.2.2.2.2.2.2.2.1) q5 a1) vlX5_146 viX3_isFirmIn rfl rfl (by decide) rfl (by rw [hR.1, hR.2]; decide) (Nat.le_of_ble_eq_true rfl) dX5_isFirm_27 (ok_qI fun v6 s7 => ?_)
        refine ok_if_ne C 35 dX5_isFirm_30 (by decide) ?_ ?_
        · exact oX5_isFirm_35 C T hn hR hin ih a0 a1 x2 s7
        · refine ok_iconst C (v := 0) dX5_isFirm_33 (by decide) ?_
          exact ok_zreturn C dX5_isFirm_34
set_option maxHeartbeats 4000000 in
theorem oX5_isFirm {Γ : CX} (C : OKC Γ cX5_isFirm RX5 (some (.boolean))) (T : ∀ z ∈ (cx_c Γ).exceptionTable.toList, False) (hn : cx_nL Γ = 3) (hR : cx_fr Γ = 4 ∧ cx_lo Γ = 123) (hin : (cx_meth Γ).name = yX5_isFirm.name) : ∀ (a0 : Nat) (a1 : Nat) (s0 : AS), OK Γ 0 [(0, .ref a0), (1, .ref a1)] [] (fX5_isFirm a0 a1 s0) s0 := by
  intro a0 a1 s0
  unfold fX5_isFirm
  refine ok_iconst C (v := 0) dX5_isFirm_0 (by decide) ?_
  refine ok_istore_n C (i := 2) [(2, .int 0), (0, .ref a0), (1, .ref a1)] dX5_isFirm_1 rfl (by rw [hn]; decide) rfl ?_
  refine OK.sub (lv' := [(0, .ref a0), (1, .ref a1), (2, .int 0)]) [1, 2, 0] rfl ?_
  exact oX5_isFirm_2 C T hn hR hin FU a0 a1 0 s0
theorem ctX5_isFirm {l : Launch} (hl : l.stackTraces = false) {D : va_G} {dA : Nat → ClassId} {B0 : Nat} (a0 : Nat) (a1 : Nat) : Ct l D dA B0 yX5_isFirm (.code yX5_isFirm cX5_isFirm 3 (some (.boolean)) :: ax_ALL) 4 123 [.ref a0, .ref a1] (fX5_isFirm a0 a1) :=
  Ct.of hl (by decide +kernel) (Nat.le_of_ble_eq_true rfl) fun Γ C _ _ _ _ e5 e6 e7 T hin => oX5_isFirm C T e5 ⟨e6, e7⟩ hin a0 a1 _
/-! ChaseLocker$State.impress(LChaseLocker$Plan;)V -/
def fX5_impress_38  (a0 : Nat) (a1 : Nat) (s0 : AS) : Option AR :=
  cV s0 a0 9 (fX5_dropLooseRows a0 a1 s0) (qI (fun v1 s2 =>
  gI s2 a0 9 3 (fun v3 =>
  sI s2 a0 9 3 (v3 + 1) (fun s4 =>
  if v1 = 0 then (
    cV s4 a0 9 (fX5_isFirm a0 a1 s4) (qI (fun v5 s6 =>
    if v5 = 0 then (
      some (.inl none, s6))
    else (
      gI s6 a0 9 4 (fun v7 =>
      sI s6 a0 9 4 (v7 + 1) (fun s8 =>
      some (.inl none, s8)))))))
  else (
    some (.inl none, s4))))))
def fX5_impress_2  : Nat → Nat → Nat → Int32 → AS → Option AR
  | 0, _, _, _, _ => none
  | n + 1, a0, a1, x2, s0 =>
    if (8 : Int32) ≤ x2 then (
      fX5_impress_38 a0 a1 s0)
    else (
      gR s0 a0 9 0 (fun q1 =>
      aR s0 q1 111 x2 (fun q2 =>
      gI s0 q2 7 9 (fun v3 =>
      gR s0 a0 9 0 (fun q4 =>
      aR s0 q4 111 x2 (fun q5 =>
      cV s0 q5 7 (fX3_growthInImpression q5 a1 s0) (qI (fun v6 s7 =>
      sI s7 q2 7 9 (v3 + v6) (fun s8 =>
      lt (x2 + 1) (fun v9 =>
      fX5_impress_2 n a0 a1 v9 s8))))))))))
def fX5_impress (a0 : Nat) (a1 : Nat) (s0 : AS) : Option AR :=
  fX5_impress_2 FU a0 a1 0 s0
set_option maxHeartbeats 4000000 in
theorem oX5_impress_38 {Γ : CX} (C : OKC Γ cX5_impress RX5 none) (T : ∀ z ∈ (cx_c Γ).exceptionTable.toList, False) (hn : cx_nL Γ = 3) (hR : cx_fr Γ = 5 ∧ cx_lo Γ = 147) (hin : (cx_meth Γ).name = yX5_impress.name) : ∀ (a0 : Nat) (a1 : Nat) (s0 : AS), OK Γ 38 [(0, .ref a0), (1, .ref a1)] [] (fX5_impress_38  a0 a1 s0) s0 := by
  intro a0 a1 s0
  unfold fX5_impress_38
  refine ok_aload_n C 0 dX5_impress_38 rfl ?_
  refine ok_aload_n C 1 dX5_impress_39 rfl ?_
  refine ok_callV C T [.ref a1] (F := fX5_dropLooseRows a0 a1) (ctX5_dropLooseRows (C.2.2.2.2.2.2.2.2.1) a0 a1) vlX5_124 viX5_dropLooseRows rfl rfl (by decide) rfl (by rw [hR.1, hR.2]; decide) (Nat.le_of_ble_eq_true rfl) dX5_impress_40 (ok_qI fun v1 s2 => ?_)
  refine ok_istore_n C (i := 2) [(2, .int v1), (0, .ref a0), (1, .ref a1)] dX5_impress_43 rfl (by rw [hn]; decide) rfl ?_
  refine ok_aload_n C 1 dX5_impress_44 rfl ?_
  refine ok_dup C dX5_impress_45 rfl ?_
  refine ok_getI C frX5_29_9 dX5_impress_46 (fun v3 => ?_)
  refine ok_iconst C (v := 1) dX5_impress_49 (by decide) ?_
  refine ok_iadd C dX5_impress_50 ?_
  refine ok_putI C flX5_29_9 dX5_impress_51 (fun s4 _ => ?_)
  refine ok_iload_n C 0 dX5_impress_54 rfl ?_
  refine ok_if_ne C 76 dX5_impress_55 (by decide) ?_ ?_
  · exact ok_vreturn C dX5_impress_76
  · refine ok_aload_n C 1 dX5_impress_58 rfl ?_
    refine ok_aload_n C 2 dX5_impress_59 rfl ?_
    refine ok_callV C T [.ref a1] (F := fX5_isFirm a0 a1) (ctX5_isFirm (C.2.2.2.2.2.2.2.2.1) a0 a1) vlX5_127 viX5_isFirm rfl rfl (by decide) rfl (by rw [hR.1, hR.2]; decide) (Nat.le_of_ble_eq_true rfl) dX5_impress_60 (ok_qI fun v5 s6 => ?_)
    refine ok_if_eq C 76 dX5_impress_63 (by decide) ?_ ?_
    · exact ok_vreturn C dX5_impress_76
    · refine ok_aload_n C 1 dX5_impress_66 rfl ?_
      refine ok_dup C dX5_impress_67 rfl ?_
      refine ok_getI C frX5_32_9 dX5_impress_68 (fun v7 => ?_)
      refine ok_iconst C (v := 1) dX5_impress_71 (by decide) ?_
      refine ok_iadd C dX5_impress_72 ?_
      refine ok_putI C flX5_32_9 dX5_impress_73 (fun s8 _ => ?_)
      exact ok_vreturn C dX5_impress_76
set_option maxHeartbeats 4000000 in
theorem oX5_impress_2 {Γ : CX} (C : OKC Γ cX5_impress RX5 none) (T : ∀ z ∈ (cx_c Γ).exceptionTable.toList, False) (hn : cx_nL Γ = 3) (hR : cx_fr Γ = 5 ∧ cx_lo Γ = 147) (hin : (cx_meth Γ).name = yX5_impress.name) : ∀ (n : Nat) (a0 : Nat) (a1 : Nat) (x2 : Int32) (s0 : AS), OK Γ 2 [(0, .ref a0), (1, .ref a1), (2, .int x2)] [] (fX5_impress_2 n a0 a1 x2 s0) s0 := by
  intro n
  induction n with
  | zero => intro _ _ _ s0; exact OK.none
  | succ n ih =>
    intro a0 a1 x2 s0
    rw [fX5_impress_2]
    refine ok_iload_n C 2 dX5_impress_2 rfl ?_
    refine ok_bipush C (v := 8) dX5_impress_3 (by decide) ?_
    refine ok_icmp_ge C 38 dX5_impress_5 (by decide) ?_ ?_
    · refine OK.sub (lv' := [(0, .ref a0), (1, .ref a1)]) [0, 1] rfl ?_
      exact oX5_impress_38 C T hn hR hin a0 a1 s0
    · refine ok_aload_n C 0 dX5_impress_8 rfl ?_
      refine ok_getR C frX5_11_9 dX5_impress_9 (fun q1 => ?_)
      refine ok_iload_n C 2 dX5_impress_12 rfl ?_
      refine ok_aald C 111 7 (fun _ => rfl) (by decide) dX5_impress_13 (fun q2 => ?_)
      refine ok_dup C dX5_impress_14 rfl ?_
      refine ok_getI C frX5_107_7 dX5_impress_15 (fun v3 => ?_)
      refine ok_aload_n C 0 dX5_impress_18 rfl ?_
      refine ok_getR C frX5_11_9 dX5_impress_19 (fun q4 => ?_)
      refine ok_iload_n C 2 dX5_impress_22 rfl ?_
      refine ok_aald C 111 7 (fun _ => rfl) (by decide) dX5_impress_23 (fun q5 => ?_)
      refine ok_aload_n C 1 dX5_impress_24 rfl ?_
      refine ok_callV C T [.ref a1] (F := fX3_growthInImpression q5 a1) (ctX3_growthInImpression (C.2.2.2.2.2.2.2.2.1) q5 a1) vlX5_120 viX3_growthInImpression rfl rfl (by decide) rfl (by rw [hR.1, hR.2]; decide) (Nat.le_of_ble_eq_true rfl) dX5_impress_25 (ok_qI fun v6 s7 => ?_)
      refine ok_iadd C dX5_impress_28 ?_
      refine ok_putI C flX5_107_7 dX5_impress_29 (fun s8 _ => ?_)
      refine ok_iincL C 2 (c := 1) (fun v9 => [(2, .int v9), (0, .ref a0), (1, .ref a1)]) dX5_impress_32 rfl rfl (by rw [hn]; decide) (fun _ => rfl) (fun v9 => ?_)
      refine ok_goto C 2 dX5_impress_35 (by decide) ?_
      refine OK.sub (lv' := [(0, .ref a0), (1, .ref a1), (2, .int v9)]) [1, 2, 0] rfl ?_
      exact ih a0 a1 v9 s8
set_option maxHeartbeats 4000000 in
theorem oX5_impress {Γ : CX} (C : OKC Γ cX5_impress RX5 none) (T : ∀ z ∈ (cx_c Γ).exceptionTable.toList, False) (hn : cx_nL Γ = 3) (hR : cx_fr Γ = 5 ∧ cx_lo Γ = 147) (hin : (cx_meth Γ).name = yX5_impress.name) : ∀ (a0 : Nat) (a1 : Nat) (s0 : AS), OK Γ 0 [(0, .ref a0), (1, .ref a1)] [] (fX5_impress a0 a1 s0) s0 := by
  intro a0 a1 s0
  unfold fX5_impress
  refine ok_iconst C (v := 0) dX5_impress_0 (by decide) ?_
  refine ok_istore_n C (i := 2) [(2, .int 0), (0, .ref a0), (1, .ref a1)] dX5_impress_1 rfl (by rw [hn]; decide) rfl ?_
  refine OK.sub (lv' := [(0, .ref a0), (1, .ref a1), (2, .int 0)]) [1, 2, 0] rfl ?_
  exact oX5_impress_2 C T hn hR hin FU a0 a1 0 s0
theorem ctX5_impress {l : Launch} (hl : l.stackTraces = false) {D : va_G} {dA : Nat → ClassId} {B0 : Nat} (a0 : Nat) (a1 : Nat) : Ct l D dA B0 yX5_impress (.code yX5_impress cX5_impress 3 (none) :: ax_ALL) 5 147 [.ref a0, .ref a1] (fX5_impress a0 a1) :=
  Ct.of hl (by decide +kernel) (Nat.le_of_ble_eq_true rfl) fun Γ C _ _ _ _ e5 e6 e7 T hin => oX5_impress C T e5 ⟨e6, e7⟩ hin a0 a1 _
/-! ChaseLocker$State.impressOften(LChaseLocker$Plan;I)I -/
def fX5_impressOften_8  : Nat → Nat → Nat → Int32 → Int32 → Int32 → AS → Option AR
  | 0, _, _, _, _, _, _ => none
  | n + 1, a0, a1, x2, x3, x4, s0 =>
    if x2 ≤ x4 then (
      gI s0 a0 9 4 (fun v1 =>
      some (.inl (some (.int (v1 - x3))), s0)))
    else (
      cV s0 a0 9 (fX5_impress a0 a1 s0) (qV (fun s2 =>
      lt (x4 + 1) (fun v3 =>
      fX5_impressOften_8 n a0 a1 x2 x3 v3 s2))))
def fX5_impressOften (a0 : Nat) (a1 : Nat) (x2 : Int32) (s0 : AS) : Option AR :=
  gI s0 a0 9 4 (fun v1 =>
  fX5_impressOften_8 FU a0 a1 x2 v1 0 s0)
set_option maxHeartbeats 4000000 in
theorem oX5_impressOften_8 {Γ : CX} (C : OKC Γ cX5_impressOften RX5 (some (.int))) (T : ∀ z ∈ (cx_c Γ).exceptionTable.toList, False) (hn : cx_nL Γ = 5) (hR : cx_fr Γ = 6 ∧ cx_lo Γ = 169) (hin : (cx_meth Γ).name = yX5_impressOften.name) : ∀ (n : Nat) (a0 : Nat) (a1 : Nat) (x2 : Int32) (x3 : Int32) (x4 : Int32) (s0 : AS), OK Γ 8 [(0, .ref a0), (1, .ref a1), (2, .int x2), (3, .int x3), (4, .int x4)] [] (fX5_impressOften_8 n a0 a1 x2 x3 x4 s0) s0 := by
  intro n
  induction n with
  | zero => intro _ _ _ _ _ s0; exact OK.none
  | succ n ih =>
    intro a0 a1 x2 x3 x4 s0
    rw [fX5_impressOften_8]
    refine ok_iload C 4 dX5_impressOften_8 rfl ?_
    refine ok_iload_n C 2 dX5_impressOften_10 rfl ?_
    refine ok_icmp_ge C 25 dX5_impressOften_11 (by decide) ?_ ?_
    · refine ok_aload_n C 0 dX5_impressOften_25 rfl ?_
      refine ok_getI C frX5_32_9 dX5_impressOften_26 (fun v1 => ?_)
      refine ok_iload_n C 3 dX5_impressOften_29 rfl ?_
      refine ok_isub C dX5_impressOften_30 ?_
      exact ok_ireturn C dX5_impressOften_31
    · refine ok_aload_n C 0 dX5_impressOften_14 rfl ?_
      refine ok_aload_n C 1 dX5_impressOften_15 rfl ?_
      refine ok_callV C T [.ref a1] (F := fX5_impress a0 a1) (ctX5_impress (C.2.2.2.2.2.2.2.2.1) a0 a1) vlX5_116 viX5_impress rfl rfl (by decide) rfl (by rw [hR.1, hR.2]; decide) (Nat.le_of_ble_eq_true rfl) dX5_impressOften_16 (ok_qV fun s2 => ?_)
      refine ok_iincL C 4 (c := 1) (fun v3 => [(4, .int v3), (0, .ref a0), (1, .ref a1), (2, .int x2), (3, .int x3)]) dX5_impressOften_19 rfl rfl (by rw [hn]; decide) (fun _ => rfl) (fun v3 => ?_)
      refine ok_goto C 8 dX5_impressOften_22 (by decide) ?_
      refine OK.sub (lv' := [(0, .ref a0), (1, .ref a1), (2, .int x2), (3, .int x3), (4, .int v3)]) [1, 2, 3, 4, 0] rfl ?_
      exact ih a0 a1 x2 x3 v3 s2
set_option maxHeartbeats 4000000 in
theorem oX5_impressOften {Γ : CX} (C : OKC Γ cX5_impressOften RX5 (some (.int))) (T : ∀ z ∈ (cx_c Γ).exceptionTable.toList, False) (hn : cx_nL Γ = 5) (hR : cx_fr Γ = 6 ∧ cx_lo Γ = 169) (hin : (cx_meth Γ).name = yX5_impressOften.name) : ∀ (a0 : Nat) (a1 : Nat) (x2 : Int32) (s0 : AS), OK Γ 0 [(0, .ref a0), (1, .ref a1), (2, .int x2)] [] (fX5_impressOften a0 a1 x2 s0) s0 := by
  intro a0 a1 x2 s0
  unfold fX5_impressOften
  refine ok_aload_n C 0 dX5_impressOften_0 rfl ?_
  refine ok_getI C frX5_32_9 dX5_impressOften_1 (fun v1 => ?_)
  refine ok_istore_n C (i := 3) [(3, .int v1), (0, .ref a0), (1, .ref a1), (2, .int x2)] dX5_impressOften_4 rfl (by rw [hn]; decide) rfl ?_
  refine ok_iconst C (v := 0) dX5_impressOften_5 (by decide) ?_
  refine ok_istore C (i := 4) [(4, .int 0), (3, .int v1), (0, .ref a0), (1, .ref a1), (2, .int x2)] dX5_impressOften_6 (by rw [hn]; decide) rfl ?_
  refine OK.sub (lv' := [(0, .ref a0), (1, .ref a1), (2, .int x2), (3, .int v1), (4, .int 0)]) [2, 3, 4, 1, 0] rfl ?_
  exact oX5_impressOften_8 C T hn hR hin FU a0 a1 x2 v1 0 s0
theorem ctX5_impressOften {l : Launch} (hl : l.stackTraces = false) {D : va_G} {dA : Nat → ClassId} {B0 : Nat} (a0 : Nat) (a1 : Nat) (x2 : Int32) : Ct l D dA B0 yX5_impressOften (.code yX5_impressOften cX5_impressOften 5 (some (.int)) :: ax_ALL) 6 169 [.ref a0, .ref a1, .int x2] (fX5_impressOften a0 a1 x2) :=
  Ct.of hl (by decide +kernel) (Nat.le_of_ble_eq_true rfl) fun Γ C _ _ _ _ e5 e6 e7 T hin => oX5_impressOften C T e5 ⟨e6, e7⟩ hin a0 a1 x2 _
/-! ChaseLocker$State.passDay(LChaseLocker$Plan;)I -/
def fX5_passDay_38  (a0 : Nat) (a1 : Nat) (s0 : AS) : Option AR :=
  gI s0 a0 9 5 (fun v1 =>
  sI s0 a0 9 5 (v1 + 1) (fun s2 =>
  cV s2 a0 9 (fX5_dropLooseRows a0 a1 s2) (qI (fun v3 s4 =>
  some (.inl (some (.int v3)), s4)))))
def fX5_passDay_2  : Nat → Nat → Nat → Int32 → AS → Option AR
  | 0, _, _, _, _ => none
  | n + 1, a0, a1, x2, s0 =>
    if (8 : Int32) ≤ x2 then (
      fX5_passDay_38 a0 a1 s0)
    else (
      gR s0 a0 9 0 (fun q1 =>
      aR s0 q1 111 x2 (fun q2 =>
      gI s0 q2 7 9 (fun v3 =>
      gR s0 a0 9 0 (fun q4 =>
      aR s0 q4 111 x2 (fun q5 =>
      cV s0 q5 7 (fX3_growthInDay q5 a1 s0) (qI (fun v6 s7 =>
      sI s7 q2 7 9 (v3 + v6) (fun s8 =>
      lt (x2 + 1) (fun v9 =>
      fX5_passDay_2 n a0 a1 v9 s8))))))))))
def fX5_passDay (a0 : Nat) (a1 : Nat) (s0 : AS) : Option AR :=
  fX5_passDay_2 FU a0 a1 0 s0
set_option maxHeartbeats 4000000 in
theorem oX5_passDay_38 {Γ : CX} (C : OKC Γ cX5_passDay RX5 (some (.int))) (T : ∀ z ∈ (cx_c Γ).exceptionTable.toList, False) (hn : cx_nL Γ = 3) (hR : cx_fr Γ = 5 ∧ cx_lo Γ = 147) (hin : (cx_meth Γ).name = yX5_passDay.name) : ∀ (a0 : Nat) (a1 : Nat) (s0 : AS), OK Γ 38 [(0, .ref a0), (1, .ref a1)] [] (fX5_passDay_38  a0 a1 s0) s0 := by
  intro a0 a1 s0
  unfold fX5_passDay_38
  refine ok_aload_n C 0 dX5_passDay_38 rfl ?_
  refine ok_dup C dX5_passDay_39 rfl ?_
  refine ok_getI C frX5_35_9 dX5_passDay_40 (fun v1 => ?_)
  refine ok_iconst C (v := 1) dX5_passDay_43 (by decide) ?_
  refine ok_iadd C dX5_passDay_44 ?_
  refine ok_putI C flX5_35_9 dX5_passDay_45 (fun s2 _ => ?_)
  refine ok_aload_n C 0 dX5_passDay_48 rfl ?_
  refine ok_aload_n C 1 dX5_passDay_49 rfl ?_
  refine ok_callV C T [.ref a1] (F := fX5_dropLooseRows a0 a1) (ctX5_dropLooseRows (C.2.2.2.2.2.2.2.2.1) a0 a1) vlX5_124 viX5_dropLooseRows rfl rfl (by decide) rfl (by rw [hR.1, hR.2]; decide) (Nat.le_of_ble_eq_true rfl) dX5_passDay_50 (ok_qI fun v3 s4 => ?_)
  exact ok_ireturn C dX5_passDay_53
set_option maxHeartbeats 4000000 in
theorem oX5_passDay_2 {Γ : CX} (C : OKC Γ cX5_passDay RX5 (some (.int))) (T : ∀ z ∈ (cx_c Γ).exceptionTable.toList, False) (hn : cx_nL Γ = 3) (hR : cx_fr Γ = 5 ∧ cx_lo Γ = 147) (hin : (cx_meth Γ).name = yX5_passDay.name) : ∀ (n : Nat) (a0 : Nat) (a1 : Nat) (x2 : Int32) (s0 : AS), OK Γ 2 [(0, .ref a0), (1, .ref a1), (2, .int x2)] [] (fX5_passDay_2 n a0 a1 x2 s0) s0 := by
  intro n
  induction n with
  | zero => intro _ _ _ s0; exact OK.none
  | succ n ih =>
    intro a0 a1 x2 s0
    rw [fX5_passDay_2]
    refine ok_iload_n C 2 dX5_passDay_2 rfl ?_
    refine ok_bipush C (v := 8) dX5_passDay_3 (by decide) ?_
    refine ok_icmp_ge C 38 dX5_passDay_5 (by decide) ?_ ?_
    · refine OK.sub (lv' := [(0, .ref a0), (1, .ref a1)]) [0, 1] rfl ?_
      exact oX5_passDay_38 C T hn hR hin a0 a1 s0
    · refine ok_aload_n C 0 dX5_passDay_8 rfl ?_
      refine ok_getR C frX5_11_9 dX5_passDay_9 (fun q1 => ?_)
      refine ok_iload_n C 2 dX5_passDay_12 rfl ?_
      refine ok_aald C 111 7 (fun _ => rfl) (by decide) dX5_passDay_13 (fun q2 => ?_)
      refine ok_dup C dX5_passDay_14 rfl ?_
      refine ok_getI C frX5_107_7 dX5_passDay_15 (fun v3 => ?_)
      refine ok_aload_n C 0 dX5_passDay_18 rfl ?_
      refine ok_getR C frX5_11_9 dX5_passDay_19 (fun q4 => ?_)
      refine ok_iload_n C 2 dX5_passDay_22 rfl ?_
      refine ok_aald C 111 7 (fun _ => rfl) (by decide) dX5_passDay_23 (fun q5 => ?_)
      refine ok_aload_n C 1 dX5_passDay_24 rfl ?_
      refine ok_callV C T [.ref a1] (F := fX3_growthInDay q5 a1) (ctX3_growthInDay (C.2.2.2.2.2.2.2.2.1) q5 a1) vlX5_130 viX3_growthInDay rfl rfl (by decide) rfl (by rw [hR.1, hR.2]; decide) (Nat.le_of_ble_eq_true rfl) dX5_passDay_25 (ok_qI fun v6 s7 => ?_)
      refine ok_iadd C dX5_passDay_28 ?_
      refine ok_putI C flX5_107_7 dX5_passDay_29 (fun s8 _ => ?_)
      refine ok_iincL C 2 (c := 1) (fun v9 => [(2, .int v9), (0, .ref a0), (1, .ref a1)]) dX5_passDay_32 rfl rfl (by rw [hn]; decide) (fun _ => rfl) (fun v9 => ?_)
      refine ok_goto C 2 dX5_passDay_35 (by decide) ?_
      refine OK.sub (lv' := [(0, .ref a0), (1, .ref a1), (2, .int v9)]) [1, 2, 0] rfl ?_
      exact ih a0 a1 v9 s8
set_option maxHeartbeats 4000000 in
theorem oX5_passDay {Γ : CX} (C : OKC Γ cX5_passDay RX5 (some (.int))) (T : ∀ z ∈ (cx_c Γ).exceptionTable.toList, False) (hn : cx_nL Γ = 3) (hR : cx_fr Γ = 5 ∧ cx_lo Γ = 147) (hin : (cx_meth Γ).name = yX5_passDay.name) : ∀ (a0 : Nat) (a1 : Nat) (s0 : AS), OK Γ 0 [(0, .ref a0), (1, .ref a1)] [] (fX5_passDay a0 a1 s0) s0 := by
  intro a0 a1 s0
  unfold fX5_passDay
  refine ok_iconst C (v := 0) dX5_passDay_0 (by decide) ?_
  refine ok_istore_n C (i := 2) [(2, .int 0), (0, .ref a0), (1, .ref a1)] dX5_passDay_1 rfl (by rw [hn]; decide) rfl ?_
  refine OK.sub (lv' := [(0, .ref a0), (1, .ref a1), (2, .int 0)]) [1, 2, 0] rfl ?_
  exact oX5_passDay_2 C T hn hR hin FU a0 a1 0 s0
theorem ctX5_passDay {l : Launch} (hl : l.stackTraces = false) {D : va_G} {dA : Nat → ClassId} {B0 : Nat} (a0 : Nat) (a1 : Nat) : Ct l D dA B0 yX5_passDay (.code yX5_passDay cX5_passDay 3 (some (.int)) :: ax_ALL) 5 147 [.ref a0, .ref a1] (fX5_passDay a0 a1) :=
  Ct.of hl (by decide +kernel) (Nat.le_of_ble_eq_true rfl) fun Γ C _ _ _ _ e5 e6 e7 T hin => oX5_passDay C T e5 ⟨e6, e7⟩ hin a0 a1 _
