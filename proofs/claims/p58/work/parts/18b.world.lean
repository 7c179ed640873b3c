/-! ChaseLockerLaw$Draws.<init>([I)V -/
def fX17_init (a0 : Nat) (a1 : Nat) (s0 : AS) : Option AR :=
  sR s0 a0 11 0 a1 (fun s1 =>
  some (.inl none, s1))
set_option maxHeartbeats 4000000 in
theorem oX17_init {Γ : CX} (C : OKC Γ cX17_init RX17 none) (T : ∀ z ∈ (cx_c Γ).exceptionTable.toList, False) (hn : cx_nL Γ = 2) (hR : cx_fr Γ = 2 ∧ cx_lo Γ = 60) (hin : (cx_meth Γ).name = yX17_init.name) : ∀ (a0 : Nat) (a1 : Nat) (s0 : AS), OK Γ 0 [(0, .ref a0), (1, .ref a1)] [] (fX17_init a0 a1 s0) s0 := by
  intro a0 a1 s0
  unfold fX17_init
  refine ok_aload_n C 0 dX17_init_0 rfl ?_
  refine ok_objInit C kw_787 kw_48 kw_49 (by rw [hR.1]; decide) (by rw [hR.2]; exact Nat.le_of_ble_eq_true rfl) dX17_init_1 ?_
  refine ok_aload_n C 0 dX17_init_4 rfl ?_
  refine ok_aload_n C 1 dX17_init_5 rfl ?_
  refine ok_putRF C flX17_7_11 (by first | exact Or.inl ⟨_, rfl⟩ | exact Or.inr ⟨_, rfl⟩) hin dX17_init_6 (fun s1 _ => ?_)
  exact ok_vreturn C dX17_init_9
theorem ctX17_init {l : Launch} (hl : l.stackTraces = false) {D : va_G} {dA : Nat → ClassId} {B0 : Nat} (a0 : Nat) (a1 : Nat) : Ct l D dA B0 yX17_init (.code yX17_init cX17_init 2 (none) :: ax_ALL) 2 60 [.ref a0, .ref a1] (fX17_init a0 a1) :=
  Ct.of hl (by decide +kernel) (Nat.le_of_ble_eq_true rfl) fun Γ C _ _ _ _ e5 e6 e7 T hin => oX17_init C T e5 ⟨e6, e7⟩ hin a0 a1 _
/-! ChaseLockerLaw$Draws.next(II)I -/
def fX17_next_28 (sc : Nat × (Nat → Int32))  (a0 : Nat) (x1 : Int32) (x2 : Int32) (t0 : Int32) (s0 : AS) : Option AR :=
  gI s0 a0 11 1 (fun v1 =>
  sI s0 a0 11 1 (v1 + 1) (fun s2 =>
  if ((x2 - x1) + 1) = 0 then none else (
  some (.inl (some (.int (x1 + (t0 - t0 / ((x2 - x1) + 1) * ((x2 - x1) + 1))))), s2))))
def fX17_next (sc : Nat × (Nat → Int32)) (a0 : Nat) (x1 : Int32) (x2 : Int32) (s0 : AS) : Option AR :=
  gI s0 a0 11 1 (fun v1 =>
  gR s0 a0 11 0 (fun q2 =>
  sL q2 sc (fun v3 =>
  if v3 ≤ v1 then (
    fX17_next_28 sc a0 x1 x2 0 s0)
  else (
    gR s0 a0 11 0 (fun q4 =>
    gI s0 a0 11 1 (fun v5 =>
    sG q4 sc v5 (fun v6 =>
    fX17_next_28 sc a0 x1 x2 (v6 &&& 2147483647) s0)))))))
set_option maxHeartbeats 4000000 in
theorem oX17_next_28 {Γ : CX} (C : OKC Γ cX17_next RX17 (some (.int))) (T : ∀ z ∈ (cx_c Γ).exceptionTable.toList, False) (hn : cx_nL Γ = 4) (hR : cx_fr Γ = 1 ∧ cx_lo Γ = 60) (hin : (cx_meth Γ).name = yX17_next.name) {sc : Nat × (Nat → Int32)} (hsc : ax_scr (cx_ad Γ) = sc) : ∀ (a0 : Nat) (x1 : Int32) (x2 : Int32) (t0 : Int32) (s0 : AS), OK Γ 28 [(0, .ref a0), (1, .int x1), (2, .int x2)] [.int t0] (fX17_next_28 sc  a0 x1 x2 t0 s0) s0 := by
  intro a0 x1 x2 t0 s0
  unfold fX17_next_28
  refine ok_istore_n C (i := 3) [(3, .int t0), (0, .ref a0), (1, .int x1), (2, .int x2)] dX17_next_28 rfl (by rw [hn]; decide) rfl ?_
  refine ok_aload_n C 1 dX17_next_29 rfl ?_
  refine ok_dup C dX17_next_30 rfl ?_
  refine ok_getI C frX17_13_11 dX17_next_31 (fun v1 => ?_)
  refine ok_iconst C (v := 1) dX17_next_34 (by decide) ?_
  refine ok_iadd C dX17_next_35 ?_
  refine ok_putI C flX17_13_11 dX17_next_36 (fun s2 _ => ?_)
  refine ok_iload_n C 2 dX17_next_39 rfl ?_
  refine ok_iload_n C 0 dX17_next_40 rfl ?_
  refine ok_iload_n C 3 dX17_next_41 rfl ?_
  refine ok_iload_n C 2 dX17_next_42 rfl ?_
  refine ok_isub C dX17_next_43 ?_
  refine ok_iconst C (v := 1) dX17_next_44 (by decide) ?_
  refine ok_iadd C dX17_next_45 ?_
  refine ok_irem C dX17_next_46 ?_
  refine ok_iadd C dX17_next_47 ?_
  exact ok_ireturn C dX17_next_48
set_option maxHeartbeats 4000000 in
theorem oX17_next {Γ : CX} (C : OKC Γ cX17_next RX17 (some (.int))) (T : ∀ z ∈ (cx_c Γ).exceptionTable.toList, False) (hn : cx_nL Γ = 4) (hR : cx_fr Γ = 1 ∧ cx_lo Γ = 60) (hin : (cx_meth Γ).name = yX17_next.name) {sc : Nat × (Nat → Int32)} (hsc : ax_scr (cx_ad Γ) = sc) : ∀ (a0 : Nat) (x1 : Int32) (x2 : Int32) (s0 : AS), OK Γ 0 [(0, .ref a0), (1, .int x1), (2, .int x2)] [] (fX17_next sc a0 x1 x2 s0) s0 := by
  intro a0 x1 x2 s0
  unfold fX17_next
  refine ok_aload_n C 0 dX17_next_0 rfl ?_
  refine ok_getI C frX17_13_11 dX17_next_1 (fun v1 => ?_)
  refine ok_aload_n C 0 dX17_next_4 rfl ?_
  refine ok_getR C frX17_7_11 dX17_next_5 (fun q2 => ?_)
  refine ok_slen C hsc dX17_next_8 (fun v3 => ?_)
  refine ok_icmp_ge C 27 dX17_next_9 (by decide) ?_ ?_
  · refine ok_iconst C (v := 0) dX17_next_27 (by decide) ?_
    exact oX17_next_28 C T hn hR hin hsc a0 x1 x2 0 s0
  · refine ok_aload_n C 0 dX17_next_12 rfl ?_
    refine ok_getR C frX17_7_11 dX17_next_13 (fun q4 => ?_)
    refine ok_aload_n C 0 dX17_next_16 rfl ?_
    refine ok_getI C frX17_13_11 dX17_next_17 (fun v5 => ?_)
    refine ok_sld C hsc dX17_next_20 (fun v6 => ?_)
    refine ok_ldc C (v := 2147483647) kw_790 dX17_next_21 ?_
    refine ok_iand C dX17_next_23 ?_
    refine ok_goto C 28 dX17_next_24 (by decide) ?_
    exact oX17_next_28 C T hn hR hin hsc a0 x1 x2 (v6 &&& 2147483647) s0
theorem ctX17_next {l : Launch} (hl : l.stackTraces = false) {D : va_G} {dA : Nat → ClassId} {B0 : Nat} (a0 : Nat) (x1 : Int32) (x2 : Int32) : CtS l D dA B0 yX17_next (.code yX17_next cX17_next 4 (some (.int)) :: ax_ALL) 1 60 [.ref a0, .int x1, .int x2] (fun sc => fX17_next sc a0 x1 x2) :=
  CtS.of hl (by decide +kernel) (Nat.le_of_ble_eq_true rfl) fun Γ C _ _ _ _ e5 e6 e7 T hin => oX17_next C T e5 ⟨e6, e7⟩ hin rfl a0 x1 x2 _
/-! ChaseLockerLaw$Filling.<init>()V -/
def fX18_init (a0 : Nat) (s0 : AS) : Option AR :=
  nA s0 100 4 (fun q1 s2 =>
  sR s2 a0 12 0 q1 (fun s3 =>
  sI s3 a0 12 1 1000000 (fun s4 =>
  sI s4 a0 12 2 ((-1)) (fun s5 =>
  some (.inl none, s5)))))
set_option maxHeartbeats 4000000 in
theorem oX18_init {Γ : CX} (C : OKC Γ cX18_init RX18 none) (T : ∀ z ∈ (cx_c Γ).exceptionTable.toList, False) (hn : cx_nL Γ = 1) (hR : cx_fr Γ = 2 ∧ cx_lo Γ = 60) (hin : (cx_meth Γ).name = yX18_init.name) : ∀ (a0 : Nat) (s0 : AS), OK Γ 0 [(0, .ref a0)] [] (fX18_init a0 s0) s0 := by
  intro a0 s0
  unfold fX18_init
  refine ok_aload_n C 0 dX18_init_0 rfl ?_
  refine ok_objInit C kw_791 kw_48 kw_49 (by rw [hR.1]; decide) (by rw [hR.2]; exact Nat.le_of_ble_eq_true rfl) dX18_init_1 ?_
  refine ok_aload_n C 0 dX18_init_4 rfl ?_
  refine ok_iconst C (v := 4) dX18_init_5 (by decide) ?_
  refine ok_newI C kw_136 dX18_init_6 (fun q1 s2 => ?_)
  refine ok_putRF C flX18_7_12 (by first | exact Or.inl ⟨_, rfl⟩ | exact Or.inr ⟨_, rfl⟩) hin dX18_init_8 (fun s3 _ => ?_)
  refine ok_aload_n C 0 dX18_init_11 rfl ?_
  refine ok_ldc C (v := 1000000) kw_793 dX18_init_12 ?_
  refine ok_putI C flX18_14_12 dX18_init_14 (fun s4 _ => ?_)
  refine ok_aload_n C 0 dX18_init_17 rfl ?_
  refine ok_iconst C (v := (-1)) dX18_init_18 (by decide) ?_
  refine ok_putI C flX18_18_12 dX18_init_19 (fun s5 _ => ?_)
  exact ok_vreturn C dX18_init_22
theorem ctX18_init {l : Launch} (hl : l.stackTraces = false) {D : va_G} {dA : Nat → ClassId} {B0 : Nat} (a0 : Nat) : Ct l D dA B0 yX18_init (.code yX18_init cX18_init 1 (none) :: ax_ALL) 2 60 [.ref a0] (fX18_init a0) :=
  Ct.of hl (by decide +kernel) (Nat.le_of_ble_eq_true rfl) fun Γ C _ _ _ _ e5 e6 e7 T hin => oX18_init C T e5 ⟨e6, e7⟩ hin a0 _
/-! ChaseLockerLaw$World.kind(ZI)I -/
def fX19_kind_32 (r2 : Nat → Int32 → Int32 → Int32 → AS → Option AR) (a0 : Nat) (x1 : Int32) (x2 : Int32) (x3 : Int32) (s0 : AS) : Option AR :=
  lt (x3 + 1) (fun v1 =>
  r2 a0 x1 x2 v1 s0)
def fX19_kind_2  : Nat → Nat → Int32 → Int32 → Int32 → AS → Option AR
  | 0, _, _, _, _, _ => none
  | n + 1, a0, x1, x2, x3, s0 =>
    gI s0 a0 13 14 (fun v1 =>
    if v1 ≤ x3 then (
      some (.inl (some (.int ((-1)))), s0))
    else (
      gR s0 a0 13 6 (fun q2 =>
      aI s0 q2 101 x3 (fun v3 =>
      if v3 = x1 then (
        gR s0 a0 13 2 (fun q4 =>
        aI s0 q4 100 x3 (fun v5 =>
        if v5 = x2 then (
          some (.inl (some (.int x3)), s0))
        else (
          fX19_kind_32 (fX19_kind_2 n) a0 x1 x2 x3 s0))))
      else (
        fX19_kind_32 (fX19_kind_2 n) a0 x1 x2 x3 s0)))))
def fX19_kind (a0 : Nat) (x1 : Int32) (x2 : Int32) (s0 : AS) : Option AR :=
  fX19_kind_2 FU a0 x1 x2 0 s0
set_option maxHeartbeats 4000000 in
theorem oX19_kind_32 {Γ : CX} (C : OKC Γ cX19_kind RX19 (some (.int))) (T : ∀ z ∈ (cx_c Γ).exceptionTable.toList, False) (hn : cx_nL Γ = 4) (hR : cx_fr Γ = 1 ∧ cx_lo Γ = 60) (hin : (cx_meth Γ).name = yX19_kind.name) {r2 : Nat → Int32 → Int32 → Int32 → AS → Option AR} (h2 : ∀ (a0 : Nat) (x1 : Int32) (x2 : Int32) (x3 : Int32) (s0 : AS), OK Γ 2 [(0, .ref a0), (1, .int x1), (2, .int x2), (3, .int x3)] [] (r2 a0 x1 x2 x3 s0) s0) : ∀ (a0 : Nat) (x1 : Int32) (x2 : Int32) (x3 : Int32) (s0 : AS), OK Γ 32 [(0, .ref a0), (1, .int x1), (2, .int x2), (3, .int x3)] [] (fX19_kind_32 r2 a0 x1 x2 x3 s0) s0 := by
  intro a0 x1 x2 x3 s0
  unfold fX19_kind_32
  refine ok_iincL C 3 (c := 1) (fun v1 => [(3, .int v1), (0, .ref a0), (1, .int x1), (2, .int x2)]) dX19_kind_32 rfl rfl (by rw [hn]; decide) (fun _ => rfl) (fun v1 => ?_)
  refine ok_goto C 2 dX19_kind_35 (by decide) ?_
  refine OK.sub (lv' := [(0, .ref a0), (1, .int x1), (2, .int x2), (3, .int v1)]) [1, 2, 3, 0] rfl ?_
  exact h2 a0 x1 x2 v1 s0
set_option maxHeartbeats 4000000 in
theorem oX19_kind_2 {Γ : CX} (C : OKC Γ cX19_kind RX19 (some (.int))) (T : ∀ z ∈ (cx_c Γ).exceptionTable.toList, False) (hn : cx_nL Γ = 4) (hR : cx_fr Γ = 1 ∧ cx_lo Γ = 60) (hin : (cx_meth Γ).name = yX19_kind.name) : ∀ (n : Nat) (a0 : Nat) (x1 : Int32) (x2 : Int32) (x3 : Int32) (s0 : AS), OK Γ 2 [(0, .ref a0), (1, .int x1), (2, .int x2), (3, .int x3)] [] (fX19_kind_2 n a0 x1 x2 x3 s0) s0 := by
  intro n
  induction n with
  | zero => intro _ _ _ _ s0; exact OK.none
  | succ n ih =>
    intro a0 x1 x2 x3 s0
    rw [fX19_kind_2]
    refine ok_iload_n C 3 dX19_kind_2 rfl ?_
    refine ok_aload_n C 0 dX19_kind_3 rfl ?_
    refine ok_getI C frX19_89_13 dX19_kind_4 (fun v1 => ?_)
    refine ok_icmp_ge C 38 dX19_kind_7 (by decide) ?_ ?_
    · refine ok_iconst C (v := (-1)) dX19_kind_38 (by decide) ?_
      exact ok_ireturn C dX19_kind_39
    · refine ok_aload_n C 0 dX19_kind_10 rfl ?_
      refine ok_getR C frX19_36_13 dX19_kind_11 (fun q2 => ?_)
      refine ok_iload_n C 3 dX19_kind_14 rfl ?_
      refine ok_zald C dX19_kind_15 (fun v3 => ?_)
      refine ok_iload_n C 1 dX19_kind_16 rfl ?_
      refine ok_icmp_ne C 32 dX19_kind_17 (by decide) ?_ ?_
      · exact oX19_kind_32 C T hn hR hin ih a0 x1 x2 x3 s0
      · refine ok_aload_n C 0 dX19_kind_20 rfl ?_
        refine ok_getR C frX19_24_13 dX19_kind_21 (fun q4 => ?_)
        refine ok_iload_n C 3 dX19_kind_24 rfl ?_
        refine ok_iald C dX19_kind_25 (fun v5 => ?_)
        refine ok_iload_n C 2 dX19_kind_26 rfl ?_
        refine ok_icmp_ne C 32 dX19_kind_27 (by decide) ?_ ?_
        · exact oX19_kind_32 C T hn hR hin ih a0 x1 x2 x3 s0
        · refine ok_iload_n C 3 dX19_kind_30 rfl ?_
          exact ok_ireturn C dX19_kind_31
set_option maxHeartbeats 4000000 in
theorem oX19_kind {Γ : CX} (C : OKC Γ cX19_kind RX19 (some (.int))) (T : ∀ z ∈ (cx_c Γ).exceptionTable.toList, False) (hn : cx_nL Γ = 4) (hR : cx_fr Γ = 1 ∧ cx_lo Γ = 60) (hin : (cx_meth Γ).name = yX19_kind.name) : ∀ (a0 : Nat) (x1 : Int32) (x2 : Int32) (s0 : AS), OK Γ 0 [(0, .ref a0), (1, .int x1), (2, .int x2)] [] (fX19_kind a0 x1 x2 s0) s0 := by
  intro a0 x1 x2 s0
  unfold fX19_kind
  refine ok_iconst C (v := 0) dX19_kind_0 (by decide) ?_
  refine ok_istore_n C (i := 3) [(3, .int 0), (0, .ref a0), (1, .int x1), (2, .int x2)] dX19_kind_1 rfl (by rw [hn]; decide) rfl ?_
  refine OK.sub (lv' := [(0, .ref a0), (1, .int x1), (2, .int x2), (3, .int 0)]) [1, 2, 3, 0] rfl ?_
  exact oX19_kind_2 C T hn hR hin FU a0 x1 x2 0 s0
theorem ctX19_kind {l : Launch} (hl : l.stackTraces = false) {D : va_G} {dA : Nat → ClassId} {B0 : Nat} (a0 : Nat) (x1 : Int32) (x2 : Int32) : Ct l D dA B0 yX19_kind (.code yX19_kind cX19_kind 4 (some (.int)) :: ax_ALL) 1 60 [.ref a0, .int x1, .int x2] (fX19_kind a0 x1 x2) :=
  Ct.of hl (by decide +kernel) (Nat.le_of_ble_eq_true rfl) fun Γ C _ _ _ _ e5 e6 e7 T hin => oX19_kind C T e5 ⟨e6, e7⟩ hin a0 x1 x2 _
/-! ChaseLockerLaw$World.sorts()V -/
def fX19_sorts_57 (r5 : Nat → Int32 → Int32 → AS → Option AR) (a0 : Nat) (x1 : Int32) (x2 : Int32) (s0 : AS) : Option AR :=
  lt (x2 + (-1)) (fun v1 =>
  r5 a0 x1 v1 s0)
def fX19_sorts_33 (r5 : Nat → Int32 → Int32 → AS → Option AR) (a0 : Nat) (x1 : Int32) (x2 : Int32) (s0 : AS) : Option AR :=
  cV s0 a0 13 (fX19_kind a0 0 x2 s0) (qI (fun v1 s2 =>
  if v1 < 0 then (
    fX19_sorts_57 r5 a0 x1 x2 s2)
  else (
    gR s2 a0 13 4 (fun q3 =>
    lt (x1 + 1) (fun v4 =>
    cV s2 a0 13 (fX19_kind a0 0 x2 s2) (qI (fun v5 s6 =>
    uI s6 q3 x1 v5 (fun s7 =>
    fX19_sorts_57 r5 a0 v4 x2 s7))))))))
def fX19_sorts_5  : Nat → Nat → Int32 → Int32 → AS → Option AR
  | 0, _, _, _, _ => none
  | n + 1, a0, x1, x2, s0 =>
    if x2 ≤ 0 then (
      some (.inl none, s0))
    else (
      cV s0 a0 13 (fX19_kind a0 1 x2 s0) (qI (fun v1 s2 =>
      if v1 < 0 then (
        fX19_sorts_33 (fX19_sorts_5 n) a0 x1 x2 s2)
      else (
        gR s2 a0 13 4 (fun q3 =>
        lt (x1 + 1) (fun v4 =>
        cV s2 a0 13 (fX19_kind a0 1 x2 s2) (qI (fun v5 s6 =>
        uI s6 q3 x1 v5 (fun s7 =>
        fX19_sorts_33 (fX19_sorts_5 n) a0 v4 x2 s7)))))))))
def fX19_sorts (a0 : Nat) (s0 : AS) : Option AR :=
  fX19_sorts_5 FU a0 0 99 s0
set_option maxHeartbeats 4000000 in
theorem oX19_sorts_57 {Γ : CX} (C : OKC Γ cX19_sorts RX19 none) (T : ∀ z ∈ (cx_c Γ).exceptionTable.toList, False) (hn : cx_nL Γ = 3) (hR : cx_fr Γ = 2 ∧ cx_lo Γ = 83) (hin : (cx_meth Γ).name = yX19_sorts.name) {r5 : Nat → Int32 → Int32 → AS → Option AR} (h5 : ∀ (a0 : Nat) (x1 : Int32) (x2 : Int32) (s0 : AS), OK Γ 5 [(0, .ref a0), (1, .int x1), (2, .int x2)] [] (r5 a0 x1 x2 s0) s0) : ∀ (a0 : Nat) (x1 : Int32) (x2 : Int32) (s0 : AS), OK Γ 57 [(0, .ref a0), (1, .int x1), (2, .int x2)] [] (fX19_sorts_57 r5 a0 x1 x2 s0) s0 := by
  intro a0 x1 x2 s0
  unfold fX19_sorts_57
  refine ok_iincL C 2 (c := (-1)) (fun v1 => [(2, .int v1), (0, .ref a0), (1, .int x1)]) dX19_sorts_57 rfl rfl (by rw [hn]; decide) (fun _ => rfl) (fun v1 => ?_)
  refine ok_goto C 5 dX19_sorts_60 (by decide) ?_
  refine OK.sub (lv' := [(0, .ref a0), (1, .int x1), (2, .int v1)]) [1, 2, 0] rfl ?_
  exact h5 a0 x1 v1 s0
set_option maxHeartbeats 4000000 in
theorem oX19_sorts_33 {Γ : CX} (C : OKC Γ cX19_sorts RX19 none) (T : ∀ z ∈ (cx_c Γ).exceptionTable.toList, False) (hn : cx_nL Γ = 3) (hR : cx_fr Γ = 2 ∧ cx_lo Γ = 83) (hin : (cx_meth Γ).name = yX19_sorts.name) {r5 : Nat → Int32 → Int32 → AS → Option AR} (h5 : ∀ (a0 : Nat) (x1 : Int32) (x2 : Int32) (s0 : AS), OK Γ 5 [(0, .ref a0), (1, .int x1), (2, .int x2)] [] (r5 a0 x1 x2 s0) s0) : ∀ (a0 : Nat) (x1 : Int32) (x2 : Int32) (s0 : AS), OK Γ 33 [(0, .ref a0), (1, .int x1), (2, .int x2)] [] (fX19_sorts_33 r5 a0 x1 x2 s0) s0 := by
  intro a0 x1 x2 s0
  unfold fX19_sorts_33
  refine ok_aload_n C 0 dX19_sorts_33 rfl ?_
  refine ok_iconst C (v := 0) dX19_sorts_34 (by decide) ?_
  refine ok_iload_n C 2 dX19_sorts_35 rfl ?_
  refine ok_callV C T [.int 0, .int x2] (F := fX19_kind a0 0 x2) (ctX19_kind (C.2.2.2.2.2.2.2.2.1) a0 0 x2) vlX19_85 viX19_kind rfl rfl (by decide) rfl (by rw [hR.1, hR.2]; decide) (Nat.le_of_ble_eq_true rfl) dX19_sorts_36 (ok_qI fun v1 s2 => ?_)
  refine ok_if_lt C 57 dX19_sorts_39 (by decide) ?_ ?_
  · exact oX19_sorts_57 C T hn hR hin h5 a0 x1 x2 s2
  · refine ok_aload_n C 0 dX19_sorts_42 rfl ?_
    refine ok_getR C frX19_30_13 dX19_sorts_43 (fun q3 => ?_)
    refine ok_iload_n C 1 dX19_sorts_46 rfl ?_
    refine ok_iincL C 1 (c := 1) (fun v4 => [(1, .int v4), (0, .ref a0), (2, .int x2)]) dX19_sorts_47 rfl rfl (by rw [hn]; decide) (fun _ => rfl) (fun v4 => ?_)
    refine ok_aload_n C 1 dX19_sorts_50 rfl ?_
    refine ok_iconst C (v := 0) dX19_sorts_51 (by decide) ?_
    refine ok_iload_n C 2 dX19_sorts_52 rfl ?_
    refine ok_callV C T [.int 0, .int x2] (F := fX19_kind a0 0 x2) (ctX19_kind (C.2.2.2.2.2.2.2.2.1) a0 0 x2) vlX19_85 viX19_kind rfl rfl (by decide) rfl (by rw [hR.1, hR.2]; decide) (Nat.le_of_ble_eq_true rfl) dX19_sorts_53 (ok_qI fun v5 s6 => ?_)
    refine ok_iast C dX19_sorts_56 (fun s7 _ => ?_)
    refine OK.sub (lv' := [(0, .ref a0), (1, .int v4), (2, .int x2)]) [1, 0, 2] rfl ?_
    exact oX19_sorts_57 C T hn hR hin h5 a0 v4 x2 s7
set_option maxHeartbeats 4000000 in
theorem oX19_sorts_5 {Γ : CX} (C : OKC Γ cX19_sorts RX19 none) (T : ∀ z ∈ (cx_c Γ).exceptionTable.toList, False) (hn : cx_nL Γ = 3) (hR : cx_fr Γ = 2 ∧ cx_lo Γ = 83) (hin : (cx_meth Γ).name = yX19_sorts.name) : ∀ (n : Nat) (a0 : Nat) (x1 : Int32) (x2 : Int32) (s0 : AS), OK Γ 5 [(0, .ref a0), (1, .int x1), (2, .int x2)] [] (fX19_sorts_5 n a0 x1 x2 s0) s0 := by
  intro n
  induction n with
  | zero => intro _ _ _ s0; exact OK.none
  | succ n ih =>
    intro a0 x1 x2 s0
    rw [fX19_sorts_5]
    refine ok_iload_n C 2 dX19_sorts_5 rfl ?_
    refine ok_if_le C 63 dX19_sorts_6 (by decide) ?_ ?_
    · exact ok_vreturn C dX19_sorts_63
    · refine ok_aload_n C 0 dX19_sorts_9 rfl ?_
      refine ok_iconst C (v := 1) dX19_sorts_10 (by decide) ?_
      refine ok_iload_n C 2 dX19_sorts_11 rfl ?_
      refine ok_callV C T [.int 1, .int x2] (F := fX19_kind a0 1 x2) (ctX19_kind (C.2.2.2.2.2.2.2.2.1) a0 1 x2) vlX19_85 viX19_kind rfl rfl (by decide) rfl (by rw [hR.1, hR.2]; decide) (Nat.le_of_ble_eq_true rfl) dX19_sorts_12 (ok_qI fun v1 s2 => ?_)
      refine ok_if_lt C 33 dX19_sorts_15 (by decide) ?_ ?_
      · exact oX19_sorts_33 C T hn hR hin ih a0 x1 x2 s2
      · refine ok_aload_n C 0 dX19_sorts_18 rfl ?_
        refine ok_getR C frX19_30_13 dX19_sorts_19 (fun q3 => ?_)
        refine ok_iload_n C 1 dX19_sorts_22 rfl ?_
        refine ok_iincL C 1 (c := 1) (fun v4 => [(1, .int v4), (0, .ref a0), (2, .int x2)]) dX19_sorts_23 rfl rfl (by rw [hn]; decide) (fun _ => rfl) (fun v4 => ?_)
        refine ok_aload_n C 1 dX19_sorts_26 rfl ?_
        refine ok_iconst C (v := 1) dX19_sorts_27 (by decide) ?_
        refine ok_iload_n C 2 dX19_sorts_28 rfl ?_
        refine ok_callV C T [.int 1, .int x2] (F := fX19_kind a0 1 x2) (ctX19_kind (C.2.2.2.2.2.2.2.2.1) a0 1 x2) vlX19_85 viX19_kind rfl rfl (by decide) rfl (by rw [hR.1, hR.2]; decide) (Nat.le_of_ble_eq_true rfl) dX19_sorts_29 (ok_qI fun v5 s6 => ?_)
        refine ok_iast C dX19_sorts_32 (fun s7 _ => ?_)
        refine OK.sub (lv' := [(0, .ref a0), (1, .int v4), (2, .int x2)]) [1, 0, 2] rfl ?_
        exact oX19_sorts_33 C T hn hR hin ih a0 v4 x2 s7
set_option maxHeartbeats 4000000 in
theorem oX19_sorts {Γ : CX} (C : OKC Γ cX19_sorts RX19 none) (T : ∀ z ∈ (cx_c Γ).exceptionTable.toList, False) (hn : cx_nL Γ = 3) (hR : cx_fr Γ = 2 ∧ cx_lo Γ = 83) (hin : (cx_meth Γ).name = yX19_sorts.name) : ∀ (a0 : Nat) (s0 : AS), OK Γ 0 [(0, .ref a0)] [] (fX19_sorts a0 s0) s0 := by
  intro a0 s0
  unfold fX19_sorts
  refine ok_iconst C (v := 0) dX19_sorts_0 (by decide) ?_
  refine ok_istore_n C (i := 1) [(1, .int 0), (0, .ref a0)] dX19_sorts_1 rfl (by rw [hn]; decide) rfl ?_
  refine ok_bipush C (v := 99) dX19_sorts_2 (by decide) ?_
  refine ok_istore_n C (i := 2) [(2, .int 99), (1, .int 0), (0, .ref a0)] dX19_sorts_4 rfl (by rw [hn]; decide) rfl ?_
  refine OK.sub (lv' := [(0, .ref a0), (1, .int 0), (2, .int 99)]) [2, 1, 0] rfl ?_
  exact oX19_sorts_5 C T hn hR hin FU a0 0 99 s0
theorem ctX19_sorts {l : Launch} (hl : l.stackTraces = false) {D : va_G} {dA : Nat → ClassId} {B0 : Nat} (a0 : Nat) : Ct l D dA B0 yX19_sorts (.code yX19_sorts cX19_sorts 3 (none) :: ax_ALL) 2 83 [.ref a0] (fX19_sorts a0) :=
  Ct.of hl (by decide +kernel) (Nat.le_of_ble_eq_true rfl) fun Γ C _ _ _ _ e5 e6 e7 T hin => oX19_sorts C T e5 ⟨e6, e7⟩ hin a0 _
/-! ChaseLockerLaw$World.blocksIn(I)I -/
def fX19_blocksIn_4  : Nat → Nat → Int32 → Int32 → Int32 → AS → Option AR
  | 0, _, _, _, _, _ => none
  | n + 1, a0, x1, x2, x3, s0 =>
    gR s0 a0 13 9 (fun q1 =>
    aI s0 q1 100 x1 (fun v2 =>
    if v2 ≤ x3 then (
      some (.inl (some (.int x2)), s0))
    else (
      gR s0 a0 13 7 (fun q3 =>
      aR s0 q3 110 x1 (fun q4 =>
      aI s0 q4 100 x3 (fun v5 =>
      lt (x2 + v5) (fun v6 =>
      lt (x3 + 1) (fun v7 =>
      fX19_blocksIn_4 n a0 x1 v6 v7 s0))))))))
def fX19_blocksIn (a0 : Nat) (x1 : Int32) (s0 : AS) : Option AR :=
  fX19_blocksIn_4 FU a0 x1 0 0 s0
set_option maxHeartbeats 4000000 in
theorem oX19_blocksIn_4 {Γ : CX} (C : OKC Γ cX19_blocksIn RX19 (some (.int))) (T : ∀ z ∈ (cx_c Γ).exceptionTable.toList, False) (hn : cx_nL Γ = 4) (hR : cx_fr Γ = 1 ∧ cx_lo Γ = 60) (hin : (cx_meth Γ).name = yX19_blocksIn.name) : ∀ (n : Nat) (a0 : Nat) (x1 : Int32) (x2 : Int32) (x3 : Int32) (s0 : AS), OK Γ 4 [(0, .ref a0), (1, .int x1), (2, .int x2), (3, .int x3)] [] (fX19_blocksIn_4 n a0 x1 x2 x3 s0) s0 := by
  intro n
  induction n with
  | zero => intro _ _ _ _ s0; exact OK.none
  | succ n ih =>
    intro a0 x1 x2 x3 s0
    rw [fX19_blocksIn_4]
    refine ok_iload_n C 3 dX19_blocksIn_4 rfl ?_
    refine ok_aload_n C 0 dX19_blocksIn_5 rfl ?_
    refine ok_getR C frX19_48_13 dX19_blocksIn_6 (fun q1 => ?_)
    refine ok_iload_n C 1 dX19_blocksIn_9 rfl ?_
    refine ok_iald C dX19_blocksIn_10 (fun v2 => ?_)
    refine ok_icmp_ge C 31 dX19_blocksIn_11 (by decide) ?_ ?_
    · refine ok_iload_n C 2 dX19_blocksIn_31 rfl ?_
      exact ok_ireturn C dX19_blocksIn_32
    · refine ok_iload_n C 2 dX19_blocksIn_14 rfl ?_
      refine ok_aload_n C 0 dX19_blocksIn_15 rfl ?_
      refine ok_getR C frX19_42_13 dX19_blocksIn_16 (fun q3 => ?_)
      refine ok_iload_n C 1 dX19_blocksIn_19 rfl ?_
      refine ok_aaldI C dX19_blocksIn_20 (fun q4 => ?_)
      refine ok_iload_n C 3 dX19_blocksIn_21 rfl ?_
      refine ok_iald C dX19_blocksIn_22 (fun v5 => ?_)
      refine ok_iadd C dX19_blocksIn_23 ?_
      refine ok_lt (fun v6 => ?_)
      refine ok_istore_n C (i := 2) [(2, .int v6), (0, .ref a0), (1, .int x1), (3, .int x3)] dX19_blocksIn_24 rfl (by rw [hn]; decide) rfl ?_
      refine ok_iincL C 3 (c := 1) (fun v7 => [(3, .int v7), (2, .int v6), (0, .ref a0), (1, .int x1)]) dX19_blocksIn_25 rfl rfl (by rw [hn]; decide) (fun _ => rfl) (fun v7 => ?_)
      refine ok_goto C 4 dX19_blocksIn_28 (by decide) ?_
      refine OK.sub (lv' := [(0, .ref a0), (1, .int x1), (2, .int v6), (3, .int v7)]) [2, 3, 1, 0] rfl ?_
      exact ih a0 x1 v6 v7 s0
set_option maxHeartbeats 4000000 in
theorem oX19_blocksIn {Γ : CX} (C : OKC Γ cX19_blocksIn RX19 (some (.int))) (T : ∀ z ∈ (cx_c Γ).exceptionTable.toList, False) (hn : cx_nL Γ = 4) (hR : cx_fr Γ = 1 ∧ cx_lo Γ = 60) (hin : (cx_meth Γ).name = yX19_blocksIn.name) : ∀ (a0 : Nat) (x1 : Int32) (s0 : AS), OK Γ 0 [(0, .ref a0), (1, .int x1)] [] (fX19_blocksIn a0 x1 s0) s0 := by
  intro a0 x1 s0
  unfold fX19_blocksIn
  refine ok_iconst C (v := 0) dX19_blocksIn_0 (by decide) ?_
  refine ok_istore_n C (i := 2) [(2, .int 0), (0, .ref a0), (1, .int x1)] dX19_blocksIn_1 rfl (by rw [hn]; decide) rfl ?_
  refine ok_iconst C (v := 0) dX19_blocksIn_2 (by decide) ?_
  refine ok_istore_n C (i := 3) [(3, .int 0), (2, .int 0), (0, .ref a0), (1, .int x1)] dX19_blocksIn_3 rfl (by rw [hn]; decide) rfl ?_
  refine OK.sub (lv' := [(0, .ref a0), (1, .int x1), (2, .int 0), (3, .int 0)]) [2, 3, 1, 0] rfl ?_
  exact oX19_blocksIn_4 C T hn hR hin FU a0 x1 0 0 s0
theorem ctX19_blocksIn {l : Launch} (hl : l.stackTraces = false) {D : va_G} {dA : Nat → ClassId} {B0 : Nat} (a0 : Nat) (x1 : Int32) : Ct l D dA B0 yX19_blocksIn (.code yX19_blocksIn cX19_blocksIn 4 (some (.int)) :: ax_ALL) 1 60 [.ref a0, .int x1] (fX19_blocksIn a0 x1) :=
  Ct.of hl (by decide +kernel) (Nat.le_of_ble_eq_true rfl) fun Γ C _ _ _ _ e5 e6 e7 T hin => oX19_blocksIn C T e5 ⟨e6, e7⟩ hin a0 x1 _
/-! ChaseLockerLaw$World.need(I)I -/
def fX19_need_15  : Nat → Nat → Int32 → Int32 → Int32 → AS → Option AR
  | 0, _, _, _, _, _ => none
  | n + 1, a0, x1, x2, x3, s0 =>
    gR s0 a0 13 10 (fun q1 =>
    aI s0 q1 100 x1 (fun v2 =>
    if v2 ≤ x3 then (
      some (.inl (some (.int x2)), s0))
    else (
      gR s0 a0 13 2 (fun q3 =>
      gR s0 a0 13 8 (fun q4 =>
      aR s0 q4 110 x1 (fun q5 =>
      aI s0 q5 100 x3 (fun v6 =>
      aI s0 q3 100 v6 (fun v7 =>
      lt (x2 - v7) (fun v8 =>
      lt (x3 + 1) (fun v9 =>
      fX19_need_15 n a0 x1 v8 v9 s0))))))))))
def fX19_need (a0 : Nat) (x1 : Int32) (s0 : AS) : Option AR :=
  gR s0 a0 13 1 (fun q1 =>
  aI s0 q1 100 0 (fun v2 =>
  cV s0 a0 13 (fX19_blocksIn a0 x1 s0) (qI (fun v3 s4 =>
  lt (v2 - v3) (fun v5 =>
  fX19_need_15 FU a0 x1 v5 0 s4)))))
set_option maxHeartbeats 4000000 in
theorem oX19_need_15 {Γ : CX} (C : OKC Γ cX19_need RX19 (some (.int))) (T : ∀ z ∈ (cx_c Γ).exceptionTable.toList, False) (hn : cx_nL Γ = 4) (hR : cx_fr Γ = 2 ∧ cx_lo Γ = 83) (hin : (cx_meth Γ).name = yX19_need.name) : ∀ (n : Nat) (a0 : Nat) (x1 : Int32) (x2 : Int32) (x3 : Int32) (s0 : AS), OK Γ 15 [(0, .ref a0), (1, .int x1), (2, .int x2), (3, .int x3)] [] (fX19_need_15 n a0 x1 x2 x3 s0) s0 := by
  intro n
  induction n with
  | zero => intro _ _ _ _ s0; exact OK.none
  | succ n ih =>
    intro a0 x1 x2 x3 s0
    rw [fX19_need_15]
    refine ok_iload_n C 3 dX19_need_15 rfl ?_
    refine ok_aload_n C 0 dX19_need_16 rfl ?_
    refine ok_getR C frX19_51_13 dX19_need_17 (fun q1 => ?_)
    refine ok_iload_n C 1 dX19_need_20 rfl ?_
    refine ok_iald C dX19_need_21 (fun v2 => ?_)
    refine ok_icmp_ge C 47 dX19_need_22 (by decide) ?_ ?_
    · refine ok_iload_n C 2 dX19_need_47 rfl ?_
      exact ok_ireturn C dX19_need_48
    · refine ok_iload_n C 2 dX19_need_25 rfl ?_
      refine ok_aload_n C 0 dX19_need_26 rfl ?_
      refine ok_getR C frX19_24_13 dX19_need_27 (fun q3 => ?_)
      refine ok_aload_n C 0 dX19_need_30 rfl ?_
      refine ok_getR C frX19_45_13 dX19_need_31 (fun q4 => ?_)
      refine ok_iload_n C 1 dX19_need_34 rfl ?_
      refine ok_aaldI C dX19_need_35 (fun q5 => ?_)
      refine ok_iload_n C 3 dX19_need_36 rfl ?_
      refine ok_iald C dX19_need_37 (fun v6 => ?_)
      refine ok_iald C dX19_need_38 (fun v7 => ?_)
      refine ok_isub C dX19_need_39 ?_
      refine ok_lt (fun v8 => ?_)
      refine ok_istore_n C (i := 2) [(2, .int v8), (0, .ref a0), (1, .int x1), (3, .int x3)] dX19_need_40 rfl (by rw [hn]; decide) rfl ?_
      refine ok_iincL C 3 (c := 1) (fun v9 => [(3, .int v9), (2, .int v8), (0, .ref a0), (1, .int x1)]) dX19_need_41 rfl rfl (by rw [hn]; decide) (fun _ => rfl) (fun v9 => ?_)
      refine ok_goto C 15 dX19_need_44 (by decide) ?_
      refine OK.sub (lv' := [(0, .ref a0), (1, .int x1), (2, .int v8), (3, .int v9)]) [2, 3, 1, 0] rfl ?_
      exact ih a0 x1 v8 v9 s0
set_option maxHeartbeats 4000000 in
theorem oX19_need {Γ : CX} (C : OKC Γ cX19_need RX19 (some (.int))) (T : ∀ z ∈ (cx_c Γ).exceptionTable.toList, False) (hn : cx_nL Γ = 4) (hR : cx_fr Γ = 2 ∧ cx_lo Γ = 83) (hin : (cx_meth Γ).name = yX19_need.name) : ∀ (a0 : Nat) (x1 : Int32) (s0 : AS), OK Γ 0 [(0, .ref a0), (1, .int x1)] [] (fX19_need a0 x1 s0) s0 := by
  intro a0 x1 s0
  unfold fX19_need
  refine ok_aload_n C 0 dX19_need_0 rfl ?_
  refine ok_getR C frX19_20_13 dX19_need_1 (fun q1 => ?_)
  refine ok_iconst C (v := 0) dX19_need_4 (by decide) ?_
  refine ok_iald C dX19_need_5 (fun v2 => ?_)
  refine ok_aload_n C 0 dX19_need_6 rfl ?_
  refine ok_iload_n C 1 dX19_need_7 rfl ?_
  refine ok_callV C T [.int x1] (F := fX19_blocksIn a0 x1) (ctX19_blocksIn (C.2.2.2.2.2.2.2.2.1) a0 x1) vlX19_111 viX19_blocksIn rfl rfl (by decide) rfl (by rw [hR.1, hR.2]; decide) (Nat.le_of_ble_eq_true rfl) dX19_need_8 (ok_qI fun v3 s4 => ?_)
  refine ok_isub C dX19_need_11 ?_
  refine ok_lt (fun v5 => ?_)
  refine ok_istore_n C (i := 2) [(2, .int v5), (0, .ref a0), (1, .int x1)] dX19_need_12 rfl (by rw [hn]; decide) rfl ?_
  refine ok_iconst C (v := 0) dX19_need_13 (by decide) ?_
  refine ok_istore_n C (i := 3) [(3, .int 0), (2, .int v5), (0, .ref a0), (1, .int x1)] dX19_need_14 rfl (by rw [hn]; decide) rfl ?_
  refine OK.sub (lv' := [(0, .ref a0), (1, .int x1), (2, .int v5), (3, .int 0)]) [2, 3, 1, 0] rfl ?_
  exact oX19_need_15 C T hn hR hin FU a0 x1 v5 0 s4
theorem ctX19_need {l : Launch} (hl : l.stackTraces = false) {D : va_G} {dA : Nat → ClassId} {B0 : Nat} (a0 : Nat) (x1 : Int32) : Ct l D dA B0 yX19_need (.code yX19_need cX19_need 4 (some (.int)) :: ax_ALL) 2 83 [.ref a0, .int x1] (fX19_need a0 x1) :=
  Ct.of hl (by decide +kernel) (Nat.le_of_ble_eq_true rfl) fun Γ C _ _ _ _ e5 e6 e7 T hin => oX19_need C T e5 ⟨e6, e7⟩ hin a0 x1 _
/-! ChaseLockerLaw$World.gap(I)I -/
def fX19_gap (a0 : Nat) (x1 : Int32) (s0 : AS) : Option AR :=
  cV s0 a0 13 (fX19_need a0 x1 s0) (qI (fun v1 s2 =>
  gR s2 a0 13 11 (fun q3 =>
  aI s2 q3 100 x1 (fun v4 =>
  if 0 ≤ v4 then (
    gR s2 a0 13 1 (fun q5 =>
    aI s2 q5 100 2 (fun v6 =>
    gR s2 a0 13 11 (fun q7 =>
    aI s2 q7 100 x1 (fun v8 =>
    gR s2 a0 13 12 (fun q9 =>
    aI s2 q9 100 x1 (fun v10 =>
    some (.inl (some (.int (v1 - ((v6 + v8) - v10)))), s2))))))))
  else (
    some (.inl (some (.int (v1 - 0))), s2))))))
set_option maxHeartbeats 4000000 in
theorem oX19_gap {Γ : CX} (C : OKC Γ cX19_gap RX19 (some (.int))) (T : ∀ z ∈ (cx_c Γ).exceptionTable.toList, False) (hn : cx_nL Γ = 2) (hR : cx_fr Γ = 3 ∧ cx_lo Γ = 106) (hin : (cx_meth Γ).name = yX19_gap.name) : ∀ (a0 : Nat) (x1 : Int32) (s0 : AS), OK Γ 0 [(0, .ref a0), (1, .int x1)] [] (fX19_gap a0 x1 s0) s0 := by
  intro a0 x1 s0
  unfold fX19_gap
  refine ok_aload_n C 0 dX19_gap_0 rfl ?_
  refine ok_iload_n C 1 dX19_gap_1 rfl ?_
  refine ok_callV C T [.int x1] (F := fX19_need a0 x1) (ctX19_need (C.2.2.2.2.2.2.2.2.1) a0 x1) vlX19_114 viX19_need rfl rfl (by decide) rfl (by rw [hR.1, hR.2]; decide) (Nat.le_of_ble_eq_true rfl) dX19_gap_2 (ok_qI fun v1 s2 => ?_)
  refine ok_aload_n C 0 dX19_gap_5 rfl ?_
  refine ok_getR C frX19_54_13 dX19_gap_6 (fun q3 => ?_)
  refine ok_iload_n C 1 dX19_gap_9 rfl ?_
  refine ok_iald C dX19_gap_10 (fun v4 => ?_)
  refine ok_if_ge C 18 dX19_gap_11 (by decide) ?_ ?_
  · refine ok_aload_n C 0 dX19_gap_18 rfl ?_
    refine ok_getR C frX19_20_13 dX19_gap_19 (fun q5 => ?_)
    refine ok_iconst C (v := 2) dX19_gap_22 (by decide) ?_
    refine ok_iald C dX19_gap_23 (fun v6 => ?_)
    refine ok_aload_n C 0 dX19_gap_24 rfl ?_
    refine ok_getR C frX19_54_13 dX19_gap_25 (fun q7 => ?_)
    refine ok_iload_n C 1 dX19_gap_28 rfl ?_
    refine ok_iald C dX19_gap_29 (fun v8 => ?_)
    refine ok_iadd C dX19_gap_30 ?_
    refine ok_aload_n C 0 dX19_gap_31 rfl ?_
    refine ok_getR C frX19_57_13 dX19_gap_32 (fun q9 => ?_)
    refine ok_iload_n C 1 dX19_gap_35 rfl ?_
    refine ok_iald C dX19_gap_36 (fun v10 => ?_)
    refine ok_isub C dX19_gap_37 ?_
    refine ok_isub C dX19_gap_38 ?_
    exact ok_ireturn C dX19_gap_39
  · refine ok_iconst C (v := 0) dX19_gap_14 (by decide) ?_
    refine ok_goto C 38 dX19_gap_15 (by decide) ?_
    refine ok_isub C dX19_gap_38 ?_
    exact ok_ireturn C dX19_gap_39
theorem ctX19_gap {l : Launch} (hl : l.stackTraces = false) {D : va_G} {dA : Nat → ClassId} {B0 : Nat} (a0 : Nat) (x1 : Int32) : Ct l D dA B0 yX19_gap (.code yX19_gap cX19_gap 2 (some (.int)) :: ax_ALL) 3 106 [.ref a0, .int x1] (fX19_gap a0 x1) :=
  Ct.of hl (by decide +kernel) (Nat.le_of_ble_eq_true rfl) fun Γ C _ _ _ _ e5 e6 e7 T hin => oX19_gap C T e5 ⟨e6, e7⟩ hin a0 x1 _
/-! ChaseLockerLaw$World.<init>(LChaseLockerLaw$Draws;)V -/
def fX19_init_712 (sc : Nat × (Nat → Int32))  (a0 : Nat) (s0 : AS) : Option AR :=
  cV s0 a0 13 (fX19_sorts a0 s0) (qV (fun s1 =>
  some (.inl none, s1)))
def fX19_init_706 (sc : Nat × (Nat → Int32)) (r591 : Nat → Nat → Int32 → AS → Option AR) (a0 : Nat) (a1 : Nat) (x2 : Int32) (s0 : AS) : Option AR :=
  lt (x2 + 1) (fun v1 =>
  r591 a0 a1 v1 s0)
def fX19_init_700 (sc : Nat × (Nat → Int32)) (r591 : Nat → Nat → Int32 → AS → Option AR) (r634 : Nat → Nat → Int32 → Int32 → AS → Option AR) (a0 : Nat) (a1 : Nat) (x2 : Int32) (x3 : Int32) (s0 : AS) : Option AR :=
  lt (x3 + (-1)) (fun v1 =>
  r634 a0 a1 x2 v1 s0)
def fX19_init_634 (sc : Nat × (Nat → Int32)) (r591 : Nat → Nat → Int32 → AS → Option AR) : Nat → Nat → Nat → Int32 → Int32 → AS → Option AR
  | 0, _, _, _, _, _ => none
  | n + 1, a0, a1, x2, x3, s0 =>
    if x3 ≤ 0 then (
      fX19_init_706 sc r591 a0 a1 x2 s0)
    else (
      cV s0 a1 11 (fX17_next sc a1 1 20 s0) (qI (fun v1 s2 =>
      cV s2 a0 13 (fX19_gap a0 x2 s2) (qI (fun v3 s4 =>
      if v1 ≤ v3 then (
        gR s4 a0 13 0 (fun q5 =>
        cV s4 q5 1 (fJ4_append_cf468 q5 32 s4) (qR (fun q6 s7 =>
        cV s7 q6 1 (fJ4_append_bf812 q6 v1 s7) (qR (fun q8 s9 =>
        gR s9 a0 13 7 (fun q10 =>
        aR s9 q10 110 x2 (fun q11 =>
        gR s9 a0 13 9 (fun q12 =>
        aI s9 q12 100 x2 (fun v13 =>
        uI s9 q11 v13 v1 (fun s14 =>
        gR s14 a0 13 9 (fun q15 =>
        aI s14 q15 100 x2 (fun v16 =>
        uI s14 q15 x2 (v16 + 1) (fun s17 =>
        fX19_init_700 sc r591 (fX19_init_634 sc r591 n) a0 a1 x2 x3 s17))))))))))))))
      else (
        fX19_init_700 sc r591 (fX19_init_634 sc r591 n) a0 a1 x2 x3 s4))))))
def fX19_init_591 (sc : Nat × (Nat → Int32))  : Nat → Nat → Nat → Int32 → AS → Option AR
  | 0, _, _, _, _ => none
  | n + 1, a0, a1, x2, s0 =>
    gR s0 a0 13 1 (fun q1 =>
    aI s0 q1 100 1 (fun v2 =>
    if v2 ≤ x2 then (
      fX19_init_712 sc a0 s0)
    else (
      cV s0 a1 11 (fX17_next sc a1 0 2 s0) (qI (fun v3 s4 =>
      if v3 = 0 then (
        fX19_init_706 sc (fX19_init_591 sc n) a0 a1 x2 s4)
      else (
        gR s4 a0 13 0 (fun q5 =>
        cV s4 q5 1 (fJ4_append_15ec4 q5 1000040 s4) (qR (fun q6 s7 =>
        cV s7 q6 1 (fJ4_append_bf812 q6 x2 s7) (qR (fun q8 s9 =>
        cV s9 a1 11 (fX17_next sc a1 0 3 s9) (qI (fun v10 s11 =>
        fX19_init_634 sc (fX19_init_591 sc n) FU a0 a1 x2 v10 s11)))))))))))))
def fX19_init_589 (sc : Nat × (Nat → Int32))  (a0 : Nat) (a1 : Nat) (s0 : AS) : Option AR :=
  fX19_init_591 sc FU a0 a1 0 s0
def fX19_init_570 (sc : Nat × (Nat → Int32))  : Nat → Nat → Nat → Int32 → AS → Option AR
  | 0, _, _, _, _ => none
  | n + 1, a0, a1, x2, s0 =>
    if (8 : Int32) ≤ x2 then (
      fX19_init_589 sc a0 a1 s0)
    else (
      gR s0 a0 13 11 (fun q1 =>
      uI s0 q1 x2 ((-1)) (fun s2 =>
      lt (x2 + 1) (fun v3 =>
      fX19_init_570 sc n a0 a1 v3 s2))))
def fX19_init_568 (sc : Nat × (Nat → Int32))  (a0 : Nat) (a1 : Nat) (s0 : AS) : Option AR :=
  fX19_init_570 sc FU a0 a1 0 s0
def fX19_init_562 (sc : Nat × (Nat → Int32)) (r406 : Nat → Nat → Int32 → AS → Option AR) (a0 : Nat) (a1 : Nat) (x2 : Int32) (s0 : AS) : Option AR :=
  lt (x2 + (-1)) (fun v1 =>
  r406 a0 a1 v1 s0)
def fX19_init_527 (sc : Nat × (Nat → Int32)) (r406 : Nat → Nat → Int32 → AS → Option AR) (a0 : Nat) (a1 : Nat) (x2 : Int32) (x3 : Int32) (t0 : Nat) (t1 : Nat) (s0 : AS) : Option AR :=
  cV s0 t0 1 (fJ4_append_15ec4 t0 t1 s0) (qR (fun q1 s2 =>
  cV s2 q1 1 (fJ4_append_bf812 q1 x3 s2) (qR (fun q3 s4 =>
  cV s4 q3 1 (fJ4_append_cf468 q3 32 s4) (qR (fun q5 s6 =>
  gR s6 a0 13 3 (fun q7 =>
  gI s6 a0 13 14 (fun v8 =>
  aI s6 q7 100 v8 (fun v9 =>
  cV s6 q5 1 (fJ4_append_bf812 q5 v9 s6) (qR (fun q10 s11 =>
  gI s11 a0 13 14 (fun v12 =>
  sI s11 a0 13 14 (v12 + 1) (fun s13 =>
  fX19_init_562 sc r406 a0 a1 x2 s13)))))))))))))
def fX19_init_507 (sc : Nat × (Nat → Int32)) (r406 : Nat → Nat → Int32 → AS → Option AR) (a0 : Nat) (a1 : Nat) (x2 : Int32) (x3 : Int32) (x4 : Int32) (t0 : Nat) (t1 : Int32) (t2 : Nat) (t3 : Int32) (t4 : Int32) (s0 : AS) : Option AR :=
  cV s0 t2 11 (fX17_next sc t2 t3 t4 s0) (qI (fun v1 s2 =>
  uI s2 t0 t1 v1 (fun s3 =>
  gR s3 a0 13 0 (fun q4 =>
  if x4 = 0 then (
    fX19_init_527 sc r406 a0 a1 x2 x3 q4 1000039 s3)
  else (
    fX19_init_527 sc r406 a0 a1 x2 x3 q4 1000038 s3)))))
def fX19_init_446 (sc : Nat × (Nat → Int32)) (r406 : Nat → Nat → Int32 → AS → Option AR) (a0 : Nat) (a1 : Nat) (x2 : Int32) (x3 : Int32) (t0 : Int32) (s0 : AS) : Option AR :=
  cV s0 a0 13 (fX19_kind a0 t0 x3 s0) (qI (fun v1 s2 =>
  if v1 < 0 then (
    gR s2 a0 13 2 (fun q3 =>
    gI s2 a0 13 14 (fun v4 =>
    uI s2 q3 v4 x3 (fun s5 =>
    gR s5 a0 13 6 (fun q6 =>
    gI s5 a0 13 14 (fun v7 =>
    uN 101 .boolean s5 q6 v7 t0 (fun s8 =>
    gR s8 a0 13 3 (fun q9 =>
    gI s8 a0 13 14 (fun v10 =>
    cV s8 a1 11 (fX17_next sc a1 0 2 s8) (qI (fun v11 s12 =>
    if v11 = 0 then (
      fX19_init_507 sc r406 a0 a1 x2 x3 t0 q9 v10 a1 0 9 s12)
    else (
      fX19_init_507 sc r406 a0 a1 x2 x3 t0 q9 v10 a1 0 4 s12))))))))))))
  else (
    fX19_init_562 sc r406 a0 a1 x2 s2)))
def fX19_init_428 (sc : Nat × (Nat → Int32)) (r406 : Nat → Nat → Int32 → AS → Option AR) (a0 : Nat) (a1 : Nat) (x2 : Int32) (t0 : Nat) (t1 : Int32) (t2 : Int32) (s0 : AS) : Option AR :=
  cV s0 t0 11 (fX17_next sc t0 t1 t2 s0) (qI (fun v1 s2 =>
  cV s2 a1 11 (fX17_next sc a1 0 1 s2) (qI (fun v3 s4 =>
  if v3 = 0 then (
    fX19_init_446 sc r406 a0 a1 x2 v1 1 s4)
  else (
    fX19_init_446 sc r406 a0 a1 x2 v1 0 s4)))))
def fX19_init_406 (sc : Nat × (Nat → Int32))  : Nat → Nat → Nat → Int32 → AS → Option AR
  | 0, _, _, _, _ => none
  | n + 1, a0, a1, x2, s0 =>
    if x2 ≤ 0 then (
      fX19_init_568 sc a0 a1 s0)
    else (
      cV s0 a1 11 (fX17_next sc a1 0 2 s0) (qI (fun v1 s2 =>
      if v1 = 0 then (
        fX19_init_428 sc (fX19_init_406 sc n) a0 a1 x2 a1 1 99 s2)
      else (
        fX19_init_428 sc (fX19_init_406 sc n) a0 a1 x2 a1 1 9 s2))))
def fX19_init_344 (sc : Nat × (Nat → Int32))  (a0 : Nat) (a1 : Nat) (s0 : AS) : Option AR :=
  gR s0 a0 13 0 (fun q1 =>
  gI s0 a0 13 15 (fun v2 =>
  cV s0 q1 1 (fJ4_append_bf812 q1 v2 s0) (qR (fun q3 s4 =>
  cV s4 q3 1 (fJ4_append_15ec4 q3 1000037 s4) (qR (fun q5 s6 =>
  gR s6 a0 13 1 (fun q7 =>
  aI s6 q7 100 4 (fun v8 =>
  cV s6 q5 1 (fJ4_append_bf812 q5 v8 s6) (qR (fun q9 s10 =>
  cV s10 q9 1 (fJ4_append_cf468 q9 32 s10) (qR (fun q11 s12 =>
  gR s12 a0 13 1 (fun q13 =>
  aI s12 q13 100 5 (fun v14 =>
  cV s12 q11 1 (fJ4_append_bf812 q11 v14 s12) (qR (fun q15 s16 =>
  cV s16 q15 1 (fJ4_append_cf468 q15 32 s16) (qR (fun q17 s18 =>
  gR s18 a0 13 1 (fun q19 =>
  aI s18 q19 100 6 (fun v20 =>
  cV s18 q17 1 (fJ4_append_bf812 q17 v20 s18) (qR (fun q21 s22 =>
  cV s22 a1 11 (fX17_next sc a1 0 4 s22) (qI (fun v23 s24 =>
  fX19_init_406 sc FU a0 a1 v23 s24))))))))))))))))))))))))
def fX19_init_314 (sc : Nat × (Nat → Int32))  : Nat → Nat → Nat → Int32 → AS → Option AR
  | 0, _, _, _, _ => none
  | n + 1, a0, a1, x2, s0 =>
    if (4 : Int32) ≤ x2 then (
      fX19_init_344 sc a0 a1 s0)
    else (
      gR s0 a0 13 0 (fun q1 =>
      gR s0 a0 13 1 (fun q2 =>
      aI s0 q2 100 x2 (fun v3 =>
      cV s0 q1 1 (fJ4_append_bf812 q1 v3 s0) (qR (fun q4 s5 =>
      cV s5 q4 1 (fJ4_append_cf468 q4 32 s5) (qR (fun q6 s7 =>
      lt (x2 + 1) (fun v8 =>
      fX19_init_314 sc n a0 a1 v8 s7)))))))))
def fX19_init_308 (sc : Nat × (Nat → Int32))  (a0 : Nat) (a1 : Nat) (t0 : Nat) (t1 : Int32) (t2 : Nat) (t3 : Int32) (t4 : Int32) (s0 : AS) : Option AR :=
  cV s0 t2 11 (fX17_next sc t2 t3 t4 s0) (qI (fun v1 s2 =>
  uI s2 t0 t1 v1 (fun s3 =>
  fX19_init_314 sc FU a0 a1 0 s3)))
def fX19_init_251 (sc : Nat × (Nat → Int32))  (a0 : Nat) (a1 : Nat) (t0 : Nat) (t1 : Nat) (t2 : Int32) (t3 : Int32) (s0 : AS) : Option AR :=
  cV s0 t1 11 (fX17_next sc t1 t2 t3 s0) (qI (fun v1 s2 =>
  sI s2 t0 13 15 v1 (fun s3 =>
  gR s3 a0 13 1 (fun q4 =>
  cV s3 a1 11 (fX17_next sc a1 0 9 s3) (qI (fun v5 s6 =>
  uI s6 q4 4 v5 (fun s7 =>
  gR s7 a0 13 1 (fun q8 =>
  cV s7 a1 11 (fX17_next sc a1 0 9 s7) (qI (fun v9 s10 =>
  uI s10 q8 5 v9 (fun s11 =>
  gR s11 a0 13 1 (fun q12 =>
  cV s11 a1 11 (fX17_next sc a1 0 1 s11) (qI (fun v13 s14 =>
  if v13 = 0 then (
    fX19_init_308 sc a0 a1 q12 6 a1 1 999 s14)
  else (
    fX19_init_308 sc a0 a1 q12 6 a1 1 120 s14)))))))))))))))
def fX19_init_229 (sc : Nat × (Nat → Int32))  (a0 : Nat) (a1 : Nat) (t0 : Nat) (t1 : Int32) (t2 : Nat) (t3 : Int32) (t4 : Int32) (s0 : AS) : Option AR :=
  cV s0 t2 11 (fX17_next sc t2 t3 t4 s0) (qI (fun v1 s2 =>
  uI s2 t0 t1 v1 (fun s3 =>
  cV s3 a1 11 (fX17_next sc a1 0 2 s3) (qI (fun v4 s5 =>
  if v4 = 0 then (
    fX19_init_251 sc a0 a1 a0 a1 0 20 s5)
  else (
    fX19_init_251 sc a0 a1 a0 a1 0 3 s5))))))
def fX19_init_203 (sc : Nat × (Nat → Int32))  (a0 : Nat) (a1 : Nat) (t0 : Nat) (t1 : Int32) (t2 : Nat) (t3 : Int32) (t4 : Int32) (s0 : AS) : Option AR :=
  cV s0 t2 11 (fX17_next sc t2 t3 t4 s0) (qI (fun v1 s2 =>
  uI s2 t0 t1 v1 (fun s3 =>
  gR s3 a0 13 1 (fun q4 =>
  cV s3 a1 11 (fX17_next sc a1 0 2 s3) (qI (fun v5 s6 =>
  if v5 = 0 then (
    fX19_init_229 sc a0 a1 q4 3 a1 0 20 s6)
  else (
    fX19_init_229 sc a0 a1 q4 3 a1 0 4 s6)))))))
def fX19_init_176 (sc : Nat × (Nat → Int32))  (a0 : Nat) (a1 : Nat) (t0 : Nat) (t1 : Int32) (t2 : Nat) (t3 : Int32) (t4 : Int32) (s0 : AS) : Option AR :=
  cV s0 t2 11 (fX17_next sc t2 t3 t4 s0) (qI (fun v1 s2 =>
  uI s2 t0 t1 v1 (fun s3 =>
  gR s3 a0 13 1 (fun q4 =>
  cV s3 a1 11 (fX17_next sc a1 0 2 s3) (qI (fun v5 s6 =>
  if v5 = 0 then (
    fX19_init_203 sc a0 a1 q4 2 a1 1 50 s6)
  else (
    fX19_init_203 sc a0 a1 q4 2 a1 1 6 s6)))))))
def fX19_init_150 (sc : Nat × (Nat → Int32))  (a0 : Nat) (a1 : Nat) (t0 : Nat) (t1 : Int32) (t2 : Nat) (t3 : Int32) (t4 : Int32) (s0 : AS) : Option AR :=
  cV s0 t2 11 (fX17_next sc t2 t3 t4 s0) (qI (fun v1 s2 =>
  uI s2 t0 t1 v1 (fun s3 =>
  gR s3 a0 13 1 (fun q4 =>
  cV s3 a1 11 (fX17_next sc a1 0 2 s3) (qI (fun v5 s6 =>
  if v5 = 0 then (
    fX19_init_176 sc a0 a1 q4 1 a1 1 8 s6)
  else (
    fX19_init_176 sc a0 a1 q4 1 a1 1 3 s6)))))))
def fX19_init (sc : Nat × (Nat → Int32)) (a0 : Nat) (a1 : Nat) (s0 : AS) : Option AR :=
  nO s0 1 4 (fun q1 s2 =>
  cS s2 (fJ4_init_a7421 q1 1000036 s2) (qV (fun s3 =>
  sR s3 a0 13 0 q1 (fun s4 =>
  nA s4 100 8 (fun q5 s6 =>
  sR s6 a0 13 1 q5 (fun s7 =>
  nA s7 100 4 (fun q8 s9 =>
  sR s9 a0 13 2 q8 (fun s10 =>
  nA s10 100 4 (fun q11 s12 =>
  sR s12 a0 13 3 q11 (fun s13 =>
  nA s13 100 4 (fun q14 s15 =>
  sR s15 a0 13 4 q14 (fun s16 =>
  nA s16 100 6 (fun q17 s18 =>
  sR s18 a0 13 5 q17 (fun s19 =>
  nA s19 101 4 (fun q20 s21 =>
  sR s21 a0 13 6 q20 (fun s22 =>
  nM6 s22 8 6 (fun q23 s24 =>
  sR s24 a0 13 7 q23 (fun s25 =>
  nM600 s25 8 600 (fun q26 s27 =>
  sR s27 a0 13 8 q26 (fun s28 =>
  nA s28 100 8 (fun q29 s30 =>
  sR s30 a0 13 9 q29 (fun s31 =>
  nA s31 100 8 (fun q32 s33 =>
  sR s33 a0 13 10 q32 (fun s34 =>
  nA s34 100 8 (fun q35 s36 =>
  sR s36 a0 13 11 q35 (fun s37 =>
  nA s37 100 8 (fun q38 s39 =>
  sR s39 a0 13 12 q38 (fun s40 =>
  nA s40 100 8 (fun q41 s42 =>
  sR s42 a0 13 13 q41 (fun s43 =>
  gR s43 a0 13 1 (fun q44 =>
  cV s43 a1 11 (fX17_next sc a1 0 2 s43) (qI (fun v45 s46 =>
  if v45 = 0 then (
    fX19_init_150 sc a0 a1 q44 0 a1 10 120 s46)
  else (
    fX19_init_150 sc a0 a1 q44 0 a1 10 40 s46))))))))))))))))))))))))))))))))))
set_option maxHeartbeats 4000000 in
theorem oX19_init_712 {Γ : CX} (C : OKC Γ cX19_init RX19 none) (T : ∀ z ∈ (cx_c Γ).exceptionTable.toList, False) (hn : cx_nL Γ = 5) (hR : cx_fr Γ = 10 ∧ cx_lo Γ = 254) (hin : (cx_meth Γ).name = yX19_init.name) {sc : Nat × (Nat → Int32)} (hsc : ax_scr (cx_ad Γ) = sc) : ∀ (a0 : Nat) (s0 : AS), OK Γ 712 [(0, .ref a0)] [] (fX19_init_712 sc  a0 s0) s0 := by
  intro a0 s0
  unfold fX19_init_712
  refine ok_aload_n C 0 dX19_init_712 rfl ?_
  refine ok_callV C T [] (F := fX19_sorts a0) (ctX19_sorts (C.2.2.2.2.2.2.2.2.1) a0) vlX19_102 viX19_sorts rfl rfl (by decide) rfl (by rw [hR.1, hR.2]; decide) (Nat.le_of_ble_eq_true rfl) dX19_init_713 (ok_qV fun s1 => ?_)
  exact ok_vreturn C dX19_init_716
set_option maxHeartbeats 4000000 in
theorem oX19_init_706 {Γ : CX} (C : OKC Γ cX19_init RX19 none) (T : ∀ z ∈ (cx_c Γ).exceptionTable.toList, False) (hn : cx_nL Γ = 5) (hR : cx_fr Γ = 10 ∧ cx_lo Γ = 254) (hin : (cx_meth Γ).name = yX19_init.name) {sc : Nat × (Nat → Int32)} (hsc : ax_scr (cx_ad Γ) = sc) {r591 : Nat → Nat → Int32 → AS → Option AR} (h591 : ∀ (a0 : Nat) (a1 : Nat) (x2 : Int32) (s0 : AS), OK Γ 591 [(0, .ref a0), (1, .ref a1), (2, .int x2)] [] (r591 a0 a1 x2 s0) s0) : ∀ (a0 : Nat) (a1 : Nat) (x2 : Int32) (s0 : AS), OK Γ 706 [(0, .ref a0), (1, .ref a1), (2, .int x2)] [] (fX19_init_706 sc r591 a0 a1 x2 s0) s0 := by
  intro a0 a1 x2 s0
  unfold fX19_init_706
  refine ok_iincL C 2 (c := 1) (fun v1 => [(2, .int v1), (0, .ref a0), (1, .ref a1)]) dX19_init_706 rfl rfl (by rw [hn]; decide) (fun _ => rfl) (fun v1 => ?_)
  refine ok_goto C 591 dX19_init_709 (by decide) ?_
  refine OK.sub (lv' := [(0, .ref a0), (1, .ref a1), (2, .int v1)]) [1, 2, 0] rfl ?_
  exact h591 a0 a1 v1 s0
set_option maxHeartbeats 4000000 in
theorem oX19_init_700 {Γ : CX} (C : OKC Γ cX19_init RX19 none) (T : ∀ z ∈ (cx_c Γ).exceptionTable.toList, False) (hn : cx_nL Γ = 5) (hR : cx_fr Γ = 10 ∧ cx_lo Γ = 254) (hin : (cx_meth Γ).name = yX19_init.name) {sc : Nat × (Nat → Int32)} (hsc : ax_scr (cx_ad Γ) = sc) {r591 : Nat → Nat → Int32 → AS → Option AR} {r634 : Nat → Nat → Int32 → Int32 → AS → Option AR} (h591 : ∀ (a0 : Nat) (a1 : Nat) (x2 : Int32) (s0 : AS), OK Γ 591 [(0, .ref a0), (1, .ref a1), (2, .int x2)] [] (r591 a0 a1 x2 s0) s0) (h634 : ∀ (a0 : Nat) (a1 : Nat) (x2 : Int32) (x3 : Int32) (s0 : AS), OK Γ 634 [(0, .ref a0), (1, .ref a1), (2, .int x2), (3, .int x3)] [] (r634 a0 a1 x2 x3 s0) s0) : ∀ (a0 : Nat) (a1 : Nat) (x2 : Int32) (x3 : Int32) (s0 : AS), OK Γ 700 [(0, .ref a0), (1, .ref a1), (2, .int x2), (3, .int x3)] [] (fX19_init_700 sc r591 r634 a0 a1 x2 x3 s0) s0 := by
  intro a0 a1 x2 x3 s0
  unfold fX19_init_700
  refine ok_iincL C 3 (c := (-1)) (fun v1 => [(3, .int v1), (0, .ref a0), (1, .ref a1), (2, .int x2)]) dX19_init_700 rfl rfl (by rw [hn]; decide) (fun _ => rfl) (fun v1 => ?_)
  refine ok_goto C 634 dX19_init_703 (by decide) ?_
  refine OK.sub (lv' := [(0, .ref a0), (1, .ref a1), (2, .int x2), (3, .int v1)]) [1, 2, 3, 0] rfl ?_
  exact h634 a0 a1 x2 v1 s0
set_option maxHeartbeats 4000000 in
theorem oX19_init_634 {Γ : CX} (C : OKC Γ cX19_init RX19 none) (T : ∀ z ∈ (cx_c Γ).exceptionTable.toList, False) (hn : cx_nL Γ = 5) (hR : cx_fr Γ = 10 ∧ cx_lo Γ = 254) (hin : (cx_meth Γ).name = yX19_init.name) {sc : Nat × (Nat → Int32)} (hsc : ax_scr (cx_ad Γ) = sc) {r591 : Nat → Nat → Int32 → AS → Option AR} (h591 : ∀ (a0 : Nat) (a1 : Nat) (x2 : Int32) (s0 : AS), OK Γ 591 [(0, .ref a0), (1, .ref a1), (2, .int x2)] [] (r591 a0 a1 x2 s0) s0) : ∀ (n : Nat) (a0 : Nat) (a1 : Nat) (x2 : Int32) (x3 : Int32) (s0 : AS), OK Γ 634 [(0, .ref a0), (1, .ref a1), (2, .int x2), (3, .int x3)] [] (fX19_init_634 sc r591 n a0 a1 x2 x3 s0) s0 := by
  intro n
  induction n with
  | zero => intro _ _ _ _ s0; exact OK.none
  | succ n ih =>
    intro a0 a1 x2 x3 s0
    rw [fX19_init_634]
    refine ok_iload_n C 3 dX19_init_634 rfl ?_
    refine ok_if_le C 706 dX19_init_635 (by decide) ?_ ?_
    · refine OK.sub (lv' := [(0, .ref a0), (1, .ref a1), (2, .int x2)]) [0, 1, 2] rfl ?_
      exact oX19_init_706 C T hn hR hin hsc h591 a0 a1 x2 s0
    · refine ok_aload_n C 1 dX19_init_638 rfl ?_
      refine ok_iconst C (v := 1) dX19_init_639 (by decide) ?_
      refine ok_bipush C (v := 20) dX19_init_640 (by decide) ?_
      refine ok_callVX C T [.int 1, .int 20] (F := fun sc => fX17_next sc a1 1 20) hsc (ctX17_next (C.2.2.2.2.2.2.2.2.1) a1 1 20) vlX19_63 viX17_next rfl rfl (by decide) rfl (by rw [hR.1, hR.2]; decide) (Nat.le_of_ble_eq_true rfl) dX19_init_642 (ok_qI fun v1 s2 => ?_)
      refine ok_istore C (i := 4) [(4, .int v1), (0, .ref a0), (1, .ref a1), (2, .int x2), (3, .int x3)] dX19_init_645 (by rw [hn]; decide) rfl ?_
      refine ok_iload C 0 dX19_init_647 rfl ?_
      refine ok_aload_n C 1 dX19_init_649 rfl ?_
      refine ok_iload_n C 3 dX19_init_650 rfl ?_
      refine ok_callV C T [.int x2] (F := fX19_gap a0 x2) (ctX19_gap (C.2.2.2.2.2.2.2.2.1) a0 x2) vlX19_98 viX19_gap rfl rfl (by decide) rfl (by rw [hR.1, hR.2]; decide) (Nat.le_of_ble_eq_true rfl) dX19_init_651 (ok_qI fun v3 s4 => ?_)
      refine ok_icmp_le C 660 dX19_init_654 (by decide) ?_ ?_
      · refine ok_aload_n C 1 dX19_init_660 rfl ?_
        refine ok_getR C frX19_14_13 dX19_init_661 (fun q5 => ?_)
        refine ok_bipush C (v := 32) dX19_init_664 (by decide) ?_
        refine ok_callV C T [.int 32] (F := fJ4_append_cf468 q5 32) (ctJ4_append_cf468 (C.2.2.2.2.2.2.2.2.1) q5 32) vlX19_77 viJ4_append_cf468 rfl rfl (by decide) rfl (by rw [hR.1, hR.2]; decide) (Nat.le_of_ble_eq_true rfl) dX19_init_666 (ok_qR fun q6 s7 => ?_)
        refine ok_iload C 0 dX19_init_669 rfl ?_
        refine ok_callV C T [.int v1] (F := fJ4_append_bf812 q6 v1) (ctJ4_append_bf812 (C.2.2.2.2.2.2.2.2.1) q6 v1) vlX19_73 viJ4_append_bf812 rfl rfl (by decide) rfl (by rw [hR.1, hR.2]; decide) (Nat.le_of_ble_eq_true rfl) dX19_init_671 (ok_qR fun q8 s9 => ?_)
        refine ok_pop C dX19_init_674 rfl ?_
        refine ok_aload_n C 1 dX19_init_675 rfl ?_
        refine ok_getR C frX19_42_13 dX19_init_676 (fun q10 => ?_)
        refine ok_iload_n C 3 dX19_init_679 rfl ?_
        refine ok_aaldI C dX19_init_680 (fun q11 => ?_)
        refine ok_aload_n C 1 dX19_init_681 rfl ?_
        refine ok_getR C frX19_48_13 dX19_init_682 (fun q12 => ?_)
        refine ok_iload_n C 3 dX19_init_685 rfl ?_
        refine ok_iald C dX19_init_686 (fun v13 => ?_)
        refine ok_iload C 0 dX19_init_687 rfl ?_
        refine ok_iast C dX19_init_689 (fun s14 _ => ?_)
        refine ok_aload_n C 1 dX19_init_690 rfl ?_
        refine ok_getR C frX19_48_13 dX19_init_691 (fun q15 => ?_)
        refine ok_iload_n C 3 dX19_init_694 rfl ?_
        refine ok_dup2 C dX19_init_695 rfl rfl ?_
        refine ok_iald C dX19_init_696 (fun v16 => ?_)
        refine ok_iconst C (v := 1) dX19_init_697 (by decide) ?_
        refine ok_iadd C dX19_init_698 ?_
        refine ok_iast C dX19_init_699 (fun s17 _ => ?_)
        refine OK.sub (lv' := [(0, .ref a0), (1, .ref a1), (2, .int x2), (3, .int x3)]) [1, 2, 3, 4] rfl ?_
        exact oX19_init_700 C T hn hR hin hsc h591 ih a0 a1 x2 x3 s17
      · refine ok_goto C 700 dX19_init_657 (by decide) ?_
        refine OK.sub (lv' := [(0, .ref a0), (1, .ref a1), (2, .int x2), (3, .int x3)]) [1, 2, 3, 4] rfl ?_
        exact oX19_init_700 C T hn hR hin hsc h591 ih a0 a1 x2 x3 s4
set_option maxHeartbeats 4000000 in
theorem oX19_init_591 {Γ : CX} (C : OKC Γ cX19_init RX19 none) (T : ∀ z ∈ (cx_c Γ).exceptionTable.toList, False) (hn : cx_nL Γ = 5) (hR : cx_fr Γ = 10 ∧ cx_lo Γ = 254) (hin : (cx_meth Γ).name = yX19_init.name) {sc : Nat × (Nat → Int32)} (hsc : ax_scr (cx_ad Γ) = sc) : ∀ (n : Nat) (a0 : Nat) (a1 : Nat) (x2 : Int32) (s0 : AS), OK Γ 591 [(0, .ref a0), (1, .ref a1), (2, .int x2)] [] (fX19_init_591 sc n a0 a1 x2 s0) s0 := by
  intro n
  induction n with
  | zero => intro _ _ _ s0; exact OK.none
  | succ n ih =>
    intro a0 a1 x2 s0
    rw [fX19_init_591]
    refine ok_iload_n C 2 dX19_init_591 rfl ?_
    refine ok_aload_n C 0 dX19_init_592 rfl ?_
    refine ok_getR C frX19_20_13 dX19_init_593 (fun q1 => ?_)
    refine ok_iconst C (v := 1) dX19_init_596 (by decide) ?_
    refine ok_iald C dX19_init_597 (fun v2 => ?_)
    refine ok_icmp_ge C 712 dX19_init_598 (by decide) ?_ ?_
    · refine OK.sub (lv' := [(0, .ref a0)]) [0] rfl ?_
      exact oX19_init_712 C T hn hR hin hsc a0 s0
    · refine ok_aload_n C 1 dX19_init_601 rfl ?_
      refine ok_iconst C (v := 0) dX19_init_602 (by decide) ?_
      refine ok_iconst C (v := 2) dX19_init_603 (by decide) ?_
      refine ok_callVX C T [.int 0, .int 2] (F := fun sc => fX17_next sc a1 0 2) hsc (ctX17_next (C.2.2.2.2.2.2.2.2.1) a1 0 2) vlX19_63 viX17_next rfl rfl (by decide) rfl (by rw [hR.1, hR.2]; decide) (Nat.le_of_ble_eq_true rfl) dX19_init_604 (ok_qI fun v3 s4 => ?_)
      refine ok_if_ne C 613 dX19_init_607 (by decide) ?_ ?_
      · refine ok_aload_n C 0 dX19_init_613 rfl ?_
        refine ok_getR C frX19_14_13 dX19_init_614 (fun q5 => ?_)
        refine ok_ldcS C 40 rfl dX19_init_617 ?_
        refine ok_callV C T [.ref 1000040] (F := fJ4_append_15ec4 q5 1000040) (ctJ4_append_15ec4 (C.2.2.2.2.2.2.2.2.1) q5 1000040) vlX19_82 viJ4_append_15ec4 rfl rfl (by decide) rfl (by rw [hR.1, hR.2]; decide) (Nat.le_of_ble_eq_true rfl) dX19_init_619 (ok_qR fun q6 s7 => ?_)
        refine ok_iload_n C 2 dX19_init_622 rfl ?_
        refine ok_callV C T [.int x2] (F := fJ4_append_bf812 q6 x2) (ctJ4_append_bf812 (C.2.2.2.2.2.2.2.2.1) q6 x2) vlX19_73 viJ4_append_bf812 rfl rfl (by decide) rfl (by rw [hR.1, hR.2]; decide) (Nat.le_of_ble_eq_true rfl) dX19_init_623 (ok_qR fun q8 s9 => ?_)
        refine ok_pop C dX19_init_626 rfl ?_
        refine ok_aload_n C 1 dX19_init_627 rfl ?_
        refine ok_iconst C (v := 0) dX19_init_628 (by decide) ?_
        refine ok_iconst C (v := 3) dX19_init_629 (by decide) ?_
        refine ok_callVX C T [.int 0, .int 3] (F := fun sc => fX17_next sc a1 0 3) hsc (ctX17_next (C.2.2.2.2.2.2.2.2.1) a1 0 3) vlX19_63 viX17_next rfl rfl (by decide) rfl (by rw [hR.1, hR.2]; decide) (Nat.le_of_ble_eq_true rfl) dX19_init_630 (ok_qI fun v10 s11 => ?_)
        refine ok_istore_n C (i := 3) [(3, .int v10), (0, .ref a0), (1, .ref a1), (2, .int x2)] dX19_init_633 rfl (by rw [hn]; decide) rfl ?_
        refine OK.sub (lv' := [(0, .ref a0), (1, .ref a1), (2, .int x2), (3, .int v10)]) [1, 2, 3, 0] rfl ?_
        exact oX19_init_634 C T hn hR hin hsc ih FU a0 a1 x2 v10 s11
      · refine ok_goto C 706 dX19_init_610 (by decide) ?_
        exact oX19_init_706 C T hn hR hin hsc ih a0 a1 x2 s4
set_option maxHeartbeats 4000000 in
theorem oX19_init_589 {Γ : CX} (C : OKC Γ cX19_init RX19 none) (T : ∀ z ∈ (cx_c Γ).exceptionTable.toList, False) (hn : cx_nL Γ = 5) (hR : cx_fr Γ = 10 ∧ cx_lo Γ = 254) (hin : (cx_meth Γ).name = yX19_init.name) {sc : Nat × (Nat → Int32)} (hsc : ax_scr (cx_ad Γ) = sc) : ∀ (a0 : Nat) (a1 : Nat) (s0 : AS), OK Γ 589 [(0, .ref a0), (1, .ref a1)] [] (fX19_init_589 sc  a0 a1 s0) s0 := by
  intro a0 a1 s0
  unfold fX19_init_589
  refine ok_iconst C (v := 0) dX19_init_589 (by decide) ?_
  refine ok_istore_n C (i := 2) [(2, .int 0), (0, .ref a0), (1, .ref a1)] dX19_init_590 rfl (by rw [hn]; decide) rfl ?_
  refine OK.sub (lv' := [(0, .ref a0), (1, .ref a1), (2, .int 0)]) [1, 2, 0] rfl ?_
  exact oX19_init_591 C T hn hR hin hsc FU a0 a1 0 s0
set_option maxHeartbeats 4000000 in
theorem oX19_init_570 {Γ : CX} (C : OKC Γ cX19_init RX19 none) (T : ∀ z ∈ (cx_c Γ).exceptionTable.toList, False) (hn : cx_nL Γ = 5) (hR : cx_fr Γ = 10 ∧ cx_lo Γ = 254) (hin : (cx_meth Γ).name = yX19_init.name) {sc : Nat × (Nat → Int32)} (hsc : ax_scr (cx_ad Γ) = sc) : ∀ (n : Nat) (a0 : Nat) (a1 : Nat) (x2 : Int32) (s0 : AS), OK Γ 570 [(0, .ref a0), (1, .ref a1), (2, .int x2)] [] (fX19_init_570 sc n a0 a1 x2 s0) s0 := by
  intro n
  induction n with
  | zero => intro _ _ _ s0; exact OK.none
  | succ n ih =>
    intro a0 a1 x2 s0
    rw [fX19_init_570]
    refine ok_iload_n C 2 dX19_init_570 rfl ?_
    refine ok_bipush C (v := 8) dX19_init_571 (by decide) ?_
    refine ok_icmp_ge C 589 dX19_init_573 (by decide) ?_ ?_
    · refine OK.sub (lv' := [(0, .ref a0), (1, .ref a1)]) [0, 1] rfl ?_
      exact oX19_init_589 C T hn hR hin hsc a0 a1 s0
    · refine ok_aload_n C 0 dX19_init_576 rfl ?_
      refine ok_getR C frX19_54_13 dX19_init_577 (fun q1 => ?_)
      refine ok_iload_n C 2 dX19_init_580 rfl ?_
      refine ok_iconst C (v := (-1)) dX19_init_581 (by decide) ?_
      refine ok_iast C dX19_init_582 (fun s2 _ => ?_)
      refine ok_iincL C 2 (c := 1) (fun v3 => [(2, .int v3), (0, .ref a0), (1, .ref a1)]) dX19_init_583 rfl rfl (by rw [hn]; decide) (fun _ => rfl) (fun v3 => ?_)
      refine ok_goto C 570 dX19_init_586 (by decide) ?_
      refine OK.sub (lv' := [(0, .ref a0), (1, .ref a1), (2, .int v3)]) [1, 2, 0] rfl ?_
      exact ih a0 a1 v3 s2
set_option maxHeartbeats 4000000 in
theorem oX19_init_568 {Γ : CX} (C : OKC Γ cX19_init RX19 none) (T : ∀ z ∈ (cx_c Γ).exceptionTable.toList, False) (hn : cx_nL Γ = 5) (hR : cx_fr Γ = 10 ∧ cx_lo Γ = 254) (hin : (cx_meth Γ).name = yX19_init.name) {sc : Nat × (Nat → Int32)} (hsc : ax_scr (cx_ad Γ) = sc) : ∀ (a0 : Nat) (a1 : Nat) (s0 : AS), OK Γ 568 [(0, .ref a0), (1, .ref a1)] [] (fX19_init_568 sc  a0 a1 s0) s0 := by
  intro a0 a1 s0
  unfold fX19_init_568
  refine ok_iconst C (v := 0) dX19_init_568 (by decide) ?_
  refine ok_istore_n C (i := 2) [(2, .int 0), (0, .ref a0), (1, .ref a1)] dX19_init_569 rfl (by rw [hn]; decide) rfl ?_
  refine OK.sub (lv' := [(0, .ref a0), (1, .ref a1), (2, .int 0)]) [1, 2, 0] rfl ?_
  exact oX19_init_570 C T hn hR hin hsc FU a0 a1 0 s0
set_option maxHeartbeats 4000000 in
theorem oX19_init_562 {Γ : CX} (C : OKC Γ cX19_init RX19 none) (T : ∀ z ∈ (cx_c Γ).exceptionTable.toList, False) (hn : cx_nL Γ = 5) (hR : cx_fr Γ = 10 ∧ cx_lo Γ = 254) (hin : (cx_meth Γ).name = yX19_init.name) {sc : Nat × (Nat → Int32)} (hsc : ax_scr (cx_ad Γ) = sc) {r406 : Nat → Nat → Int32 → AS → Option AR} (h406 : ∀ (a0 : Nat) (a1 : Nat) (x2 : Int32) (s0 : AS), OK Γ 406 [(0, .ref a0), (1, .ref a1), (2, .int x2)] [] (r406 a0 a1 x2 s0) s0) : ∀ (a0 : Nat) (a1 : Nat) (x2 : Int32) (s0 : AS), OK Γ 562 [(0, .ref a0), (1, .ref a1), (2, .int x2)] [] (fX19_init_562 sc r406 a0 a1 x2 s0) s0 := by
  intro a0 a1 x2 s0
  unfold fX19_init_562
  refine ok_iincL C 2 (c := (-1)) (fun v1 => [(2, .int v1), (0, .ref a0), (1, .ref a1)]) dX19_init_562 rfl rfl (by rw [hn]; decide) (fun _ => rfl) (fun v1 => ?_)
  refine ok_goto C 406 dX19_init_565 (by decide) ?_
  refine OK.sub (lv' := [(0, .ref a0), (1, .ref a1), (2, .int v1)]) [1, 2, 0] rfl ?_
  exact h406 a0 a1 v1 s0
set_option maxHeartbeats 4000000 in
theorem oX19_init_527 {Γ : CX} (C : OKC Γ cX19_init RX19 none) (T : ∀ z ∈ (cx_c Γ).exceptionTable.toList, False) (hn : cx_nL Γ = 5) (hR : cx_fr Γ = 10 ∧ cx_lo Γ = 254) (hin : (cx_meth Γ).name = yX19_init.name) {sc : Nat × (Nat → Int32)} (hsc : ax_scr (cx_ad Γ) = sc) {r406 : Nat → Nat → Int32 → AS → Option AR} (h406 : ∀ (a0 : Nat) (a1 : Nat) (x2 : Int32) (s0 : AS), OK Γ 406 [(0, .ref a0), (1, .ref a1), (2, .int x2)] [] (r406 a0 a1 x2 s0) s0) : ∀ (a0 : Nat) (a1 : Nat) (x2 : Int32) (x3 : Int32) (t0 : Nat) (t1 : Nat) (s0 : AS), OK Γ 527 [(0, .ref a0), (1, .ref a1), (2, .int x2), (3, .int x3)] [.ref t1, .ref t0] (fX19_init_527 sc r406 a0 a1 x2 x3 t0 t1 s0) s0 := by
  intro a0 a1 x2 x3 t0 t1 s0
  unfold fX19_init_527
  refine ok_callV C T [.ref t1] (F := fJ4_append_15ec4 t0 t1) (ctJ4_append_15ec4 (C.2.2.2.2.2.2.2.2.1) t0 t1) vlX19_82 viJ4_append_15ec4 rfl rfl (by decide) rfl (by rw [hR.1, hR.2]; decide) (Nat.le_of_ble_eq_true rfl) dX19_init_527 (ok_qR fun q1 s2 => ?_)
  refine ok_iload_n C 3 dX19_init_530 rfl ?_
  refine ok_callV C T [.int x3] (F := fJ4_append_bf812 q1 x3) (ctJ4_append_bf812 (C.2.2.2.2.2.2.2.2.1) q1 x3) vlX19_73 viJ4_append_bf812 rfl rfl (by decide) rfl (by rw [hR.1, hR.2]; decide) (Nat.le_of_ble_eq_true rfl) dX19_init_531 (ok_qR fun q3 s4 => ?_)
  refine ok_bipush C (v := 32) dX19_init_534 (by decide) ?_
  refine ok_callV C T [.int 32] (F := fJ4_append_cf468 q3 32) (ctJ4_append_cf468 (C.2.2.2.2.2.2.2.2.1) q3 32) vlX19_77 viJ4_append_cf468 rfl rfl (by decide) rfl (by rw [hR.1, hR.2]; decide) (Nat.le_of_ble_eq_true rfl) dX19_init_536 (ok_qR fun q5 s6 => ?_)
  refine ok_aload_n C 0 dX19_init_539 rfl ?_
  refine ok_getR C frX19_27_13 dX19_init_540 (fun q7 => ?_)
  refine ok_aload_n C 0 dX19_init_543 rfl ?_
  refine ok_getI C frX19_89_13 dX19_init_544 (fun v8 => ?_)
  refine ok_iald C dX19_init_547 (fun v9 => ?_)
  refine ok_callV C T [.int v9] (F := fJ4_append_bf812 q5 v9) (ctJ4_append_bf812 (C.2.2.2.2.2.2.2.2.1) q5 v9) vlX19_73 viJ4_append_bf812 rfl rfl (by decide) rfl (by rw [hR.1, hR.2]; decide) (Nat.le_of_ble_eq_true rfl) dX19_init_548 (ok_qR fun q10 s11 => ?_)
  refine ok_pop C dX19_init_551 rfl ?_
  refine ok_aload_n C 0 dX19_init_552 rfl ?_
  refine ok_dup C dX19_init_553 rfl ?_
  refine ok_getI C frX19_89_13 dX19_init_554 (fun v12 => ?_)
  refine ok_iconst C (v := 1) dX19_init_557 (by decide) ?_
  refine ok_iadd C dX19_init_558 ?_
  refine ok_putI C flX19_89_13 dX19_init_559 (fun s13 _ => ?_)
  refine OK.sub (lv' := [(0, .ref a0), (1, .ref a1), (2, .int x2)]) [0, 1, 2] rfl ?_
  exact oX19_init_562 C T hn hR hin hsc h406 a0 a1 x2 s13
set_option maxHeartbeats 4000000 in
theorem oX19_init_507 {Γ : CX} (C : OKC Γ cX19_init RX19 none) (T : ∀ z ∈ (cx_c Γ).exceptionTable.toList, False) (hn : cx_nL Γ = 5) (hR : cx_fr Γ = 10 ∧ cx_lo Γ = 254) (hin : (cx_meth Γ).name = yX19_init.name) {sc : Nat × (Nat → Int32)} (hsc : ax_scr (cx_ad Γ) = sc) {r406 : Nat → Nat → Int32 → AS → Option AR} (h406 : ∀ (a0 : Nat) (a1 : Nat) (x2 : Int32) (s0 : AS), OK Γ 406 [(0, .ref a0), (1, .ref a1), (2, .int x2)] [] (r406 a0 a1 x2 s0) s0) : ∀ (a0 : Nat) (a1 : Nat) (x2 : Int32) (x3 : Int32) (x4 : Int32) (t0 : Nat) (t1 : Int32) (t2 : Nat) (t3 : Int32) (t4 : Int32) (s0 : AS), OK Γ 507 [(0, .ref a0), (1, .ref a1), (2, .int x2), (3, .int x3), (4, .int x4)] [.int t4, .int t3, .ref t2, .int t1, .ref t0] (fX19_init_507 sc r406 a0 a1 x2 x3 x4 t0 t1 t2 t3 t4 s0) s0 := by
  intro a0 a1 x2 x3 x4 t0 t1 t2 t3 t4 s0
  unfold fX19_init_507
  refine ok_callVX C T [.int t3, .int t4] (F := fun sc => fX17_next sc t2 t3 t4) hsc (ctX17_next (C.2.2.2.2.2.2.2.2.1) t2 t3 t4) vlX19_63 viX17_next rfl rfl (by decide) rfl (by rw [hR.1, hR.2]; decide) (Nat.le_of_ble_eq_true rfl) dX19_init_507 (ok_qI fun v1 s2 => ?_)
  refine ok_iast C dX19_init_510 (fun s3 _ => ?_)
  refine ok_aload_n C 0 dX19_init_511 rfl ?_
  refine ok_getR C frX19_14_13 dX19_init_512 (fun q4 => ?_)
  refine ok_iload C 4 dX19_init_515 rfl ?_
  refine ok_if_eq C 525 dX19_init_517 (by decide) ?_ ?_
  · refine ok_ldcS C 39 rfl dX19_init_525 ?_
    refine OK.sub (lv' := [(0, .ref a0), (1, .ref a1), (2, .int x2), (3, .int x3)]) [0, 1, 2, 3] rfl ?_
    exact oX19_init_527 C T hn hR hin hsc h406 a0 a1 x2 x3 q4 1000039 s3
  · refine ok_ldcS C 38 rfl dX19_init_520 ?_
    refine ok_goto C 527 dX19_init_522 (by decide) ?_
    refine OK.sub (lv' := [(0, .ref a0), (1, .ref a1), (2, .int x2), (3, .int x3)]) [0, 1, 2, 3] rfl ?_
    exact oX19_init_527 C T hn hR hin hsc h406 a0 a1 x2 x3 q4 1000038 s3
set_option maxHeartbeats 4000000 in
theorem oX19_init_446 {Γ : CX} (C : OKC Γ cX19_init RX19 none) (T : ∀ z ∈ (cx_c Γ).exceptionTable.toList, False) (hn : cx_nL Γ = 5) (hR : cx_fr Γ = 10 ∧ cx_lo Γ = 254) (hin : (cx_meth Γ).name = yX19_init.name) {sc : Nat × (Nat → Int32)} (hsc : ax_scr (cx_ad Γ) = sc) {r406 : Nat → Nat → Int32 → AS → Option AR} (h406 : ∀ (a0 : Nat) (a1 : Nat) (x2 : Int32) (s0 : AS), OK Γ 406 [(0, .ref a0), (1, .ref a1), (2, .int x2)] [] (r406 a0 a1 x2 s0) s0) : ∀ (a0 : Nat) (a1 : Nat) (x2 : Int32) (x3 : Int32) (t0 : Int32) (s0 : AS), OK Γ 446 [(0, .ref a0), (1, .ref a1), (2, .int x2), (3, .int x3)] [.int t0] (fX19_init_446 sc r406 a0 a1 x2 x3 t0 s0) s0 := by
  intro a0 a1 x2 x3 t0 s0
  unfold fX19_init_446
  refine ok_istore C (i := 4) [(4, .int t0), (0, .ref a0), (1, .ref a1), (2, .int x2), (3, .int x3)] dX19_init_446 (by rw [hn]; decide) rfl ?_
  refine ok_aload_n C 1 dX19_init_448 rfl ?_
  refine ok_iload C 0 dX19_init_449 rfl ?_
  refine ok_iload_n C 4 dX19_init_451 rfl ?_
  refine ok_callV C T [.int t0, .int x3] (F := fX19_kind a0 t0 x3) (ctX19_kind (C.2.2.2.2.2.2.2.2.1) a0 t0 x3) vlX19_85 viX19_kind rfl rfl (by decide) rfl (by rw [hR.1, hR.2]; decide) (Nat.le_of_ble_eq_true rfl) dX19_init_452 (ok_qI fun v1 s2 => ?_)
  refine ok_if_lt C 461 dX19_init_455 (by decide) ?_ ?_
  · refine ok_aload_n C 1 dX19_init_461 rfl ?_
    refine ok_getR C frX19_24_13 dX19_init_462 (fun q3 => ?_)
    refine ok_aload_n C 1 dX19_init_465 rfl ?_
    refine ok_getI C frX19_89_13 dX19_init_466 (fun v4 => ?_)
    refine ok_iload_n C 4 dX19_init_469 rfl ?_
    refine ok_iast C dX19_init_470 (fun s5 _ => ?_)
    refine ok_aload_n C 1 dX19_init_471 rfl ?_
    refine ok_getR C frX19_36_13 dX19_init_472 (fun q6 => ?_)
    refine ok_aload_n C 1 dX19_init_475 rfl ?_
    refine ok_getI C frX19_89_13 dX19_init_476 (fun v7 => ?_)
    refine ok_iload C 0 dX19_init_479 rfl ?_
    refine ok_zast C dX19_init_481 (fun s8 _ => ?_)
    refine ok_aload_n C 1 dX19_init_482 rfl ?_
    refine ok_getR C frX19_27_13 dX19_init_483 (fun q9 => ?_)
    refine ok_aload_n C 1 dX19_init_486 rfl ?_
    refine ok_getI C frX19_89_13 dX19_init_487 (fun v10 => ?_)
    refine ok_aload_n C 2 dX19_init_490 rfl ?_
    refine ok_iconst C (v := 0) dX19_init_491 (by decide) ?_
    refine ok_aload_n C 2 dX19_init_492 rfl ?_
    refine ok_iconst C (v := 0) dX19_init_493 (by decide) ?_
    refine ok_iconst C (v := 2) dX19_init_494 (by decide) ?_
    refine ok_callVX C T [.int 0, .int 2] (F := fun sc => fX17_next sc a1 0 2) hsc (ctX17_next (C.2.2.2.2.2.2.2.2.1) a1 0 2) vlX19_63 viX17_next rfl rfl (by decide) rfl (by rw [hR.1, hR.2]; decide) (Nat.le_of_ble_eq_true rfl) dX19_init_495 (ok_qI fun v11 s12 => ?_)
    refine ok_if_ne C 506 dX19_init_498 (by decide) ?_ ?_
    · refine ok_iconst C (v := 4) dX19_init_506 (by decide) ?_
      refine OK.sub (lv' := [(0, .ref a0), (1, .ref a1), (2, .int x2), (3, .int x3), (4, .int t0)]) [1, 2, 3, 4, 0] rfl ?_
      exact oX19_init_507 C T hn hR hin hsc h406 a0 a1 x2 x3 t0 q9 v10 a1 0 4 s12
    · refine ok_bipush C (v := 9) dX19_init_501 (by decide) ?_
      refine ok_goto C 507 dX19_init_503 (by decide) ?_
      refine OK.sub (lv' := [(0, .ref a0), (1, .ref a1), (2, .int x2), (3, .int x3), (4, .int t0)]) [1, 2, 3, 4, 0] rfl ?_
      exact oX19_init_507 C T hn hR hin hsc h406 a0 a1 x2 x3 t0 q9 v10 a1 0 9 s12
  · refine ok_goto C 562 dX19_init_458 (by decide) ?_
    refine OK.sub (lv' := [(0, .ref a0), (1, .ref a1), (2, .int x2)]) [1, 2, 3] rfl ?_
    exact oX19_init_562 C T hn hR hin hsc h406 a0 a1 x2 s2
set_option maxHeartbeats 4000000 in
theorem oX19_init_428 {Γ : CX} (C : OKC Γ cX19_init RX19 none) (T : ∀ z ∈ (cx_c Γ).exceptionTable.toList, False) (hn : cx_nL Γ = 5) (hR : cx_fr Γ = 10 ∧ cx_lo Γ = 254) (hin : (cx_meth Γ).name = yX19_init.name) {sc : Nat × (Nat → Int32)} (hsc : ax_scr (cx_ad Γ) = sc) {r406 : Nat → Nat → Int32 → AS → Option AR} (h406 : ∀ (a0 : Nat) (a1 : Nat) (x2 : Int32) (s0 : AS), OK Γ 406 [(0, .ref a0), (1, .ref a1), (2, .int x2)] [] (r406 a0 a1 x2 s0) s0) : ∀ (a0 : Nat) (a1 : Nat) (x2 : Int32) (t0 : Nat) (t1 : Int32) (t2 : Int32) (s0 : AS), OK Γ 428 [(0, .ref a0), (1, .ref a1), (2, .int x2)] [.int t2, .int t1, .ref t0] (fX19_init_428 sc r406 a0 a1 x2 t0 t1 t2 s0) s0 := by
  intro a0 a1 x2 t0 t1 t2 s0
  unfold fX19_init_428
  refine ok_callVX C T [.int t1, .int t2] (F := fun sc => fX17_next sc t0 t1 t2) hsc (ctX17_next (C.2.2.2.2.2.2.2.2.1) t0 t1 t2) vlX19_63 viX17_next rfl rfl (by decide) rfl (by rw [hR.1, hR.2]; decide) (Nat.le_of_ble_eq_true rfl) dX19_init_428 (ok_qI fun v1 s2 => ?_)
  refine ok_istore_n C (i := 3) [(3, .int v1), (0, .ref a0), (1, .ref a1), (2, .int x2)] dX19_init_431 rfl (by rw [hn]; decide) rfl ?_
  refine ok_aload_n C 2 dX19_init_432 rfl ?_
  refine ok_iconst C (v := 0) dX19_init_433 (by decide) ?_
  refine ok_iconst C (v := 1) dX19_init_434 (by decide) ?_
  refine ok_callVX C T [.int 0, .int 1] (F := fun sc => fX17_next sc a1 0 1) hsc (ctX17_next (C.2.2.2.2.2.2.2.2.1) a1 0 1) vlX19_63 viX17_next rfl rfl (by decide) rfl (by rw [hR.1, hR.2]; decide) (Nat.le_of_ble_eq_true rfl) dX19_init_435 (ok_qI fun v3 s4 => ?_)
  refine ok_if_ne C 445 dX19_init_438 (by decide) ?_ ?_
  · refine ok_iconst C (v := 0) dX19_init_445 (by decide) ?_
    refine OK.sub (lv' := [(0, .ref a0), (1, .ref a1), (2, .int x2), (3, .int v1)]) [1, 2, 3, 0] rfl ?_
    exact oX19_init_446 C T hn hR hin hsc h406 a0 a1 x2 v1 0 s4
  · refine ok_iconst C (v := 1) dX19_init_441 (by decide) ?_
    refine ok_goto C 446 dX19_init_442 (by decide) ?_
    refine OK.sub (lv' := [(0, .ref a0), (1, .ref a1), (2, .int x2), (3, .int v1)]) [1, 2, 3, 0] rfl ?_
    exact oX19_init_446 C T hn hR hin hsc h406 a0 a1 x2 v1 1 s4
set_option maxHeartbeats 4000000 in
theorem oX19_init_406 {Γ : CX} (C : OKC Γ cX19_init RX19 none) (T : ∀ z ∈ (cx_c Γ).exceptionTable.toList, False) (hn : cx_nL Γ = 5) (hR : cx_fr Γ = 10 ∧ cx_lo Γ = 254) (hin : (cx_meth Γ).name = yX19_init.name) {sc : Nat × (Nat → Int32)} (hsc : ax_scr (cx_ad Γ) = sc) : ∀ (n : Nat) (a0 : Nat) (a1 : Nat) (x2 : Int32) (s0 : AS), OK Γ 406 [(0, .ref a0), (1, .ref a1), (2, .int x2)] [] (fX19_init_406 sc n a0 a1 x2 s0) s0 := by
  intro n
  induction n with
  | zero => intro _ _ _ s0; exact OK.none
  | succ n ih =>
    intro a0 a1 x2 s0
    rw [fX19_init_406]
    refine ok_iload_n C 2 dX19_init_406 rfl ?_
    refine ok_if_le C 568 dX19_init_407 (by decide) ?_ ?_
    · refine OK.sub (lv' := [(0, .ref a0), (1, .ref a1)]) [0, 1] rfl ?_
      exact oX19_init_568 C T hn hR hin hsc a0 a1 s0
    · refine ok_aload_n C 1 dX19_init_410 rfl ?_
      refine ok_iconst C (v := 1) dX19_init_411 (by decide) ?_
      refine ok_aload_n C 1 dX19_init_412 rfl ?_
      refine ok_iconst C (v := 0) dX19_init_413 (by decide) ?_
      refine ok_iconst C (v := 2) dX19_init_414 (by decide) ?_
      refine ok_callVX C T [.int 0, .int 2] (F := fun sc => fX17_next sc a1 0 2) hsc (ctX17_next (C.2.2.2.2.2.2.2.2.1) a1 0 2) vlX19_63 viX17_next rfl rfl (by decide) rfl (by rw [hR.1, hR.2]; decide) (Nat.le_of_ble_eq_true rfl) dX19_init_415 (ok_qI fun v1 s2 => ?_)
      refine ok_if_ne C 426 dX19_init_418 (by decide) ?_ ?_
      · refine ok_bipush C (v := 9) dX19_init_426 (by decide) ?_
        exact oX19_init_428 C T hn hR hin hsc ih a0 a1 x2 a1 1 9 s2
      · refine ok_bipush C (v := 99) dX19_init_421 (by decide) ?_
        refine ok_goto C 428 dX19_init_423 (by decide) ?_
        exact oX19_init_428 C T hn hR hin hsc ih a0 a1 x2 a1 1 99 s2
set_option maxHeartbeats 4000000 in
theorem oX19_init_344 {Γ : CX} (C : OKC Γ cX19_init RX19 none) (T : ∀ z ∈ (cx_c Γ).exceptionTable.toList, False) (hn : cx_nL Γ = 5) (hR : cx_fr Γ = 10 ∧ cx_lo Γ = 254) (hin : (cx_meth Γ).name = yX19_init.name) {sc : Nat × (Nat → Int32)} (hsc : ax_scr (cx_ad Γ) = sc) : ∀ (a0 : Nat) (a1 : Nat) (s0 : AS), OK Γ 344 [(0, .ref a0), (1, .ref a1)] [] (fX19_init_344 sc  a0 a1 s0) s0 := by
  intro a0 a1 s0
  unfold fX19_init_344
  refine ok_aload_n C 0 dX19_init_344 rfl ?_
  refine ok_getR C frX19_14_13 dX19_init_345 (fun q1 => ?_)
  refine ok_aload_n C 0 dX19_init_348 rfl ?_
  refine ok_getI C frX19_69_13 dX19_init_349 (fun v2 => ?_)
  refine ok_callV C T [.int v2] (F := fJ4_append_bf812 q1 v2) (ctJ4_append_bf812 (C.2.2.2.2.2.2.2.2.1) q1 v2) vlX19_73 viJ4_append_bf812 rfl rfl (by decide) rfl (by rw [hR.1, hR.2]; decide) (Nat.le_of_ble_eq_true rfl) dX19_init_352 (ok_qR fun q3 s4 => ?_)
  refine ok_ldcS C 37 rfl dX19_init_355 ?_
  refine ok_callV C T [.ref 1000037] (F := fJ4_append_15ec4 q3 1000037) (ctJ4_append_15ec4 (C.2.2.2.2.2.2.2.2.1) q3 1000037) vlX19_82 viJ4_append_15ec4 rfl rfl (by decide) rfl (by rw [hR.1, hR.2]; decide) (Nat.le_of_ble_eq_true rfl) dX19_init_357 (ok_qR fun q5 s6 => ?_)
  refine ok_aload_n C 0 dX19_init_360 rfl ?_
  refine ok_getR C frX19_20_13 dX19_init_361 (fun q7 => ?_)
  refine ok_iconst C (v := 4) dX19_init_364 (by decide) ?_
  refine ok_iald C dX19_init_365 (fun v8 => ?_)
  refine ok_callV C T [.int v8] (F := fJ4_append_bf812 q5 v8) (ctJ4_append_bf812 (C.2.2.2.2.2.2.2.2.1) q5 v8) vlX19_73 viJ4_append_bf812 rfl rfl (by decide) rfl (by rw [hR.1, hR.2]; decide) (Nat.le_of_ble_eq_true rfl) dX19_init_366 (ok_qR fun q9 s10 => ?_)
  refine ok_bipush C (v := 32) dX19_init_369 (by decide) ?_
  refine ok_callV C T [.int 32] (F := fJ4_append_cf468 q9 32) (ctJ4_append_cf468 (C.2.2.2.2.2.2.2.2.1) q9 32) vlX19_77 viJ4_append_cf468 rfl rfl (by decide) rfl (by rw [hR.1, hR.2]; decide) (Nat.le_of_ble_eq_true rfl) dX19_init_371 (ok_qR fun q11 s12 => ?_)
  refine ok_aload_n C 0 dX19_init_374 rfl ?_
  refine ok_getR C frX19_20_13 dX19_init_375 (fun q13 => ?_)
  refine ok_iconst C (v := 5) dX19_init_378 (by decide) ?_
  refine ok_iald C dX19_init_379 (fun v14 => ?_)
  refine ok_callV C T [.int v14] (F := fJ4_append_bf812 q11 v14) (ctJ4_append_bf812 (C.2.2.2.2.2.2.2.2.1) q11 v14) vlX19_73 viJ4_append_bf812 rfl rfl (by decide) rfl (by rw [hR.1, hR.2]; decide) (Nat.le_of_ble_eq_true rfl) dX19_init_380 (ok_qR fun q15 s16 => ?_)
  refine ok_bipush C (v := 32) dX19_init_383 (by decide) ?_
  refine ok_callV C T [.int 32] (F := fJ4_append_cf468 q15 32) (ctJ4_append_cf468 (C.2.2.2.2.2.2.2.2.1) q15 32) vlX19_77 viJ4_append_cf468 rfl rfl (by decide) rfl (by rw [hR.1, hR.2]; decide) (Nat.le_of_ble_eq_true rfl) dX19_init_385 (ok_qR fun q17 s18 => ?_)
  refine ok_aload_n C 0 dX19_init_388 rfl ?_
  refine ok_getR C frX19_20_13 dX19_init_389 (fun q19 => ?_)
  refine ok_bipush C (v := 6) dX19_init_392 (by decide) ?_
  refine ok_iald C dX19_init_394 (fun v20 => ?_)
  refine ok_callV C T [.int v20] (F := fJ4_append_bf812 q17 v20) (ctJ4_append_bf812 (C.2.2.2.2.2.2.2.2.1) q17 v20) vlX19_73 viJ4_append_bf812 rfl rfl (by decide) rfl (by rw [hR.1, hR.2]; decide) (Nat.le_of_ble_eq_true rfl) dX19_init_395 (ok_qR fun q21 s22 => ?_)
  refine ok_pop C dX19_init_398 rfl ?_
  refine ok_aload_n C 1 dX19_init_399 rfl ?_
  refine ok_iconst C (v := 0) dX19_init_400 (by decide) ?_
  refine ok_iconst C (v := 4) dX19_init_401 (by decide) ?_
  refine ok_callVX C T [.int 0, .int 4] (F := fun sc => fX17_next sc a1 0 4) hsc (ctX17_next (C.2.2.2.2.2.2.2.2.1) a1 0 4) vlX19_63 viX17_next rfl rfl (by decide) rfl (by rw [hR.1, hR.2]; decide) (Nat.le_of_ble_eq_true rfl) dX19_init_402 (ok_qI fun v23 s24 => ?_)
  refine ok_istore_n C (i := 2) [(2, .int v23), (0, .ref a0), (1, .ref a1)] dX19_init_405 rfl (by rw [hn]; decide) rfl ?_
  refine OK.sub (lv' := [(0, .ref a0), (1, .ref a1), (2, .int v23)]) [1, 2, 0] rfl ?_
  exact oX19_init_406 C T hn hR hin hsc FU a0 a1 v23 s24
set_option maxHeartbeats 4000000 in
theorem oX19_init_314 {Γ : CX} (C : OKC Γ cX19_init RX19 none) (T : ∀ z ∈ (cx_c Γ).exceptionTable.toList, False) (hn : cx_nL Γ = 5) (hR : cx_fr Γ = 10 ∧ cx_lo Γ = 254) (hin : (cx_meth Γ).name = yX19_init.name) {sc : Nat × (Nat → Int32)} (hsc : ax_scr (cx_ad Γ) = sc) : ∀ (n : Nat) (a0 : Nat) (a1 : Nat) (x2 : Int32) (s0 : AS), OK Γ 314 [(0, .ref a0), (1, .ref a1), (2, .int x2)] [] (fX19_init_314 sc n a0 a1 x2 s0) s0 := by
  intro n
  induction n with
  | zero => intro _ _ _ s0; exact OK.none
  | succ n ih =>
    intro a0 a1 x2 s0
    rw [fX19_init_314]
    refine ok_iload_n C 2 dX19_init_314 rfl ?_
    refine ok_iconst C (v := 4) dX19_init_315 (by decide) ?_
    refine ok_icmp_ge C 344 dX19_init_316 (by decide) ?_ ?_
    · refine OK.sub (lv' := [(0, .ref a0), (1, .ref a1)]) [0, 1] rfl ?_
      exact oX19_init_344 C T hn hR hin hsc a0 a1 s0
    · refine ok_aload_n C 0 dX19_init_319 rfl ?_
      refine ok_getR C frX19_14_13 dX19_init_320 (fun q1 => ?_)
      refine ok_aload_n C 0 dX19_init_323 rfl ?_
      refine ok_getR C frX19_20_13 dX19_init_324 (fun q2 => ?_)
      refine ok_iload_n C 2 dX19_init_327 rfl ?_
      refine ok_iald C dX19_init_328 (fun v3 => ?_)
      refine ok_callV C T [.int v3] (F := fJ4_append_bf812 q1 v3) (ctJ4_append_bf812 (C.2.2.2.2.2.2.2.2.1) q1 v3) vlX19_73 viJ4_append_bf812 rfl rfl (by decide) rfl (by rw [hR.1, hR.2]; decide) (Nat.le_of_ble_eq_true rfl) dX19_init_329 (ok_qR fun q4 s5 => ?_)
      refine ok_bipush C (v := 32) dX19_init_332 (by decide) ?_
      refine ok_callV C T [.int 32] (F := fJ4_append_cf468 q4 32) (ctJ4_append_cf468 (C.2.2.2.2.2.2.2.2.1) q4 32) vlX19_77 viJ4_append_cf468 rfl rfl (by decide) rfl (by rw [hR.1, hR.2]; decide) (Nat.le_of_ble_eq_true rfl) dX19_init_334 (ok_qR fun q6 s7 => ?_)
      refine ok_pop C dX19_init_337 rfl ?_
      refine ok_iincL C 2 (c := 1) (fun v8 => [(2, .int v8), (0, .ref a0), (1, .ref a1)]) dX19_init_338 rfl rfl (by rw [hn]; decide) (fun _ => rfl) (fun v8 => ?_)
      refine ok_goto C 314 dX19_init_341 (by decide) ?_
      refine OK.sub (lv' := [(0, .ref a0), (1, .ref a1), (2, .int v8)]) [1, 2, 0] rfl ?_
      exact ih a0 a1 v8 s7
set_option maxHeartbeats 4000000 in
theorem oX19_init_308 {Γ : CX} (C : OKC Γ cX19_init RX19 none) (T : ∀ z ∈ (cx_c Γ).exceptionTable.toList, False) (hn : cx_nL Γ = 5) (hR : cx_fr Γ = 10 ∧ cx_lo Γ = 254) (hin : (cx_meth Γ).name = yX19_init.name) {sc : Nat × (Nat → Int32)} (hsc : ax_scr (cx_ad Γ) = sc) : ∀ (a0 : Nat) (a1 : Nat) (t0 : Nat) (t1 : Int32) (t2 : Nat) (t3 : Int32) (t4 : Int32) (s0 : AS), OK Γ 308 [(0, .ref a0), (1, .ref a1)] [.int t4, .int t3, .ref t2, .int t1, .ref t0] (fX19_init_308 sc  a0 a1 t0 t1 t2 t3 t4 s0) s0 := by
  intro a0 a1 t0 t1 t2 t3 t4 s0
  unfold fX19_init_308
  refine ok_callVX C T [.int t3, .int t4] (F := fun sc => fX17_next sc t2 t3 t4) hsc (ctX17_next (C.2.2.2.2.2.2.2.2.1) t2 t3 t4) vlX19_63 viX17_next rfl rfl (by decide) rfl (by rw [hR.1, hR.2]; decide) (Nat.le_of_ble_eq_true rfl) dX19_init_308 (ok_qI fun v1 s2 => ?_)
  refine ok_iast C dX19_init_311 (fun s3 _ => ?_)
  refine ok_iconst C (v := 0) dX19_init_312 (by decide) ?_
  refine ok_istore_n C (i := 2) [(2, .int 0), (0, .ref a0), (1, .ref a1)] dX19_init_313 rfl (by rw [hn]; decide) rfl ?_
  refine OK.sub (lv' := [(0, .ref a0), (1, .ref a1), (2, .int 0)]) [1, 2, 0] rfl ?_
  exact oX19_init_314 C T hn hR hin hsc FU a0 a1 0 s3
set_option maxHeartbeats 4000000 in
theorem oX19_init_251 {Γ : CX} (C : OKC Γ cX19_init RX19 none) (T : ∀ z ∈ (cx_c Γ).exceptionTable.toList, False) (hn : cx_nL Γ = 5) (hR : cx_fr Γ = 10 ∧ cx_lo Γ = 254) (hin : (cx_meth Γ).name = yX19_init.name) {sc : Nat × (Nat → Int32)} (hsc : ax_scr (cx_ad Γ) = sc) : ∀ (a0 : Nat) (a1 : Nat) (t0 : Nat) (t1 : Nat) (t2 : Int32) (t3 : Int32) (s0 : AS), OK Γ 251 [(0, .ref a0), (1, .ref a1)] [.int t3, .int t2, .ref t1, .ref t0] (fX19_init_251 sc  a0 a1 t0 t1 t2 t3 s0) s0 := by
  intro a0 a1 t0 t1 t2 t3 s0
  unfold fX19_init_251
  refine ok_callVX C T [.int t2, .int t3] (F := fun sc => fX17_next sc t1 t2 t3) hsc (ctX17_next (C.2.2.2.2.2.2.2.2.1) t1 t2 t3) vlX19_63 viX17_next rfl rfl (by decide) rfl (by rw [hR.1, hR.2]; decide) (Nat.le_of_ble_eq_true rfl) dX19_init_251 (ok_qI fun v1 s2 => ?_)
  refine ok_putI C flX19_69_13 dX19_init_254 (fun s3 _ => ?_)
  refine ok_aload_n C 0 dX19_init_257 rfl ?_
  refine ok_getR C frX19_20_13 dX19_init_258 (fun q4 => ?_)
  refine ok_iconst C (v := 4) dX19_init_261 (by decide) ?_
  refine ok_aload_n C 1 dX19_init_262 rfl ?_
  refine ok_iconst C (v := 0) dX19_init_263 (by decide) ?_
  refine ok_bipush C (v := 9) dX19_init_264 (by decide) ?_
  refine ok_callVX C T [.int 0, .int 9] (F := fun sc => fX17_next sc a1 0 9) hsc (ctX17_next (C.2.2.2.2.2.2.2.2.1) a1 0 9) vlX19_63 viX17_next rfl rfl (by decide) rfl (by rw [hR.1, hR.2]; decide) (Nat.le_of_ble_eq_true rfl) dX19_init_266 (ok_qI fun v5 s6 => ?_)
  refine ok_iast C dX19_init_269 (fun s7 _ => ?_)
  refine ok_aload_n C 0 dX19_init_270 rfl ?_
  refine ok_getR C frX19_20_13 dX19_init_271 (fun q8 => ?_)
  refine ok_iconst C (v := 5) dX19_init_274 (by decide) ?_
  refine ok_aload_n C 1 dX19_init_275 rfl ?_
  refine ok_iconst C (v := 0) dX19_init_276 (by decide) ?_
  refine ok_bipush C (v := 9) dX19_init_277 (by decide) ?_
  refine ok_callVX C T [.int 0, .int 9] (F := fun sc => fX17_next sc a1 0 9) hsc (ctX17_next (C.2.2.2.2.2.2.2.2.1) a1 0 9) vlX19_63 viX17_next rfl rfl (by decide) rfl (by rw [hR.1, hR.2]; decide) (Nat.le_of_ble_eq_true rfl) dX19_init_279 (ok_qI fun v9 s10 => ?_)
  refine ok_iast C dX19_init_282 (fun s11 _ => ?_)
  refine ok_aload_n C 0 dX19_init_283 rfl ?_
  refine ok_getR C frX19_20_13 dX19_init_284 (fun q12 => ?_)
  refine ok_bipush C (v := 6) dX19_init_287 (by decide) ?_
  refine ok_aload_n C 1 dX19_init_289 rfl ?_
  refine ok_iconst C (v := 1) dX19_init_290 (by decide) ?_
  refine ok_aload_n C 1 dX19_init_291 rfl ?_
  refine ok_iconst C (v := 0) dX19_init_292 (by decide) ?_
  refine ok_iconst C (v := 1) dX19_init_293 (by decide) ?_
  refine ok_callVX C T [.int 0, .int 1] (F := fun sc => fX17_next sc a1 0 1) hsc (ctX17_next (C.2.2.2.2.2.2.2.2.1) a1 0 1) vlX19_63 viX17_next rfl rfl (by decide) rfl (by rw [hR.1, hR.2]; decide) (Nat.le_of_ble_eq_true rfl) dX19_init_294 (ok_qI fun v13 s14 => ?_)
  refine ok_if_ne C 306 dX19_init_297 (by decide) ?_ ?_
  · refine ok_bipush C (v := 120) dX19_init_306 (by decide) ?_
    exact oX19_init_308 C T hn hR hin hsc a0 a1 q12 6 a1 1 120 s14
  · refine ok_sipush C (v := 999) dX19_init_300 (by decide) ?_
    refine ok_goto C 308 dX19_init_303 (by decide) ?_
    exact oX19_init_308 C T hn hR hin hsc a0 a1 q12 6 a1 1 999 s14
set_option maxHeartbeats 4000000 in
theorem oX19_init_229 {Γ : CX} (C : OKC Γ cX19_init RX19 none) (T : ∀ z ∈ (cx_c Γ).exceptionTable.toList, False) (hn : cx_nL Γ = 5) (hR : cx_fr Γ = 10 ∧ cx_lo Γ = 254) (hin : (cx_meth Γ).name = yX19_init.name) {sc : Nat × (Nat → Int32)} (hsc : ax_scr (cx_ad Γ) = sc) : ∀ (a0 : Nat) (a1 : Nat) (t0 : Nat) (t1 : Int32) (t2 : Nat) (t3 : Int32) (t4 : Int32) (s0 : AS), OK Γ 229 [(0, .ref a0), (1, .ref a1)] [.int t4, .int t3, .ref t2, .int t1, .ref t0] (fX19_init_229 sc  a0 a1 t0 t1 t2 t3 t4 s0) s0 := by
  intro a0 a1 t0 t1 t2 t3 t4 s0
  unfold fX19_init_229
  refine ok_callVX C T [.int t3, .int t4] (F := fun sc => fX17_next sc t2 t3 t4) hsc (ctX17_next (C.2.2.2.2.2.2.2.2.1) t2 t3 t4) vlX19_63 viX17_next rfl rfl (by decide) rfl (by rw [hR.1, hR.2]; decide) (Nat.le_of_ble_eq_true rfl) dX19_init_229 (ok_qI fun v1 s2 => ?_)
  refine ok_iast C dX19_init_232 (fun s3 _ => ?_)
  refine ok_aload_n C 0 dX19_init_233 rfl ?_
  refine ok_aload_n C 1 dX19_init_234 rfl ?_
  refine ok_iconst C (v := 0) dX19_init_235 (by decide) ?_
  refine ok_aload_n C 1 dX19_init_236 rfl ?_
  refine ok_iconst C (v := 0) dX19_init_237 (by decide) ?_
  refine ok_iconst C (v := 2) dX19_init_238 (by decide) ?_
  refine ok_callVX C T [.int 0, .int 2] (F := fun sc => fX17_next sc a1 0 2) hsc (ctX17_next (C.2.2.2.2.2.2.2.2.1) a1 0 2) vlX19_63 viX17_next rfl rfl (by decide) rfl (by rw [hR.1, hR.2]; decide) (Nat.le_of_ble_eq_true rfl) dX19_init_239 (ok_qI fun v4 s5 => ?_)
  refine ok_if_ne C 250 dX19_init_242 (by decide) ?_ ?_
  · refine ok_iconst C (v := 3) dX19_init_250 (by decide) ?_
    exact oX19_init_251 C T hn hR hin hsc a0 a1 a0 a1 0 3 s5
  · refine ok_bipush C (v := 20) dX19_init_245 (by decide) ?_
    refine ok_goto C 251 dX19_init_247 (by decide) ?_
    exact oX19_init_251 C T hn hR hin hsc a0 a1 a0 a1 0 20 s5
set_option maxHeartbeats 4000000 in
theorem oX19_init_203 {Γ : CX} (C : OKC Γ cX19_init RX19 none) (T : ∀ z ∈ (cx_c Γ).exceptionTable.toList, False) (hn : cx_nL Γ = 5) (hR : cx_fr Γ = 10 ∧ cx_lo Γ = 254) (hin : (cx_meth Γ).name = yX19_init.name) {sc : Nat × (Nat → Int32)} (hsc : ax_scr (cx_ad Γ) = sc) : ∀ (a0 : Nat) (a1 : Nat) (t0 : Nat) (t1 : Int32) (t2 : Nat) (t3 : Int32) (t4 : Int32) (s0 : AS), OK Γ 203 [(0, .ref a0), (1, .ref a1)] [.int t4, .int t3, .ref t2, .int t1, .ref t0] (fX19_init_203 sc  a0 a1 t0 t1 t2 t3 t4 s0) s0 := by
  intro a0 a1 t0 t1 t2 t3 t4 s0
  unfold fX19_init_203
  refine ok_callVX C T [.int t3, .int t4] (F := fun sc => fX17_next sc t2 t3 t4) hsc (ctX17_next (C.2.2.2.2.2.2.2.2.1) t2 t3 t4) vlX19_63 viX17_next rfl rfl (by decide) rfl (by rw [hR.1, hR.2]; decide) (Nat.le_of_ble_eq_true rfl) dX19_init_203 (ok_qI fun v1 s2 => ?_)
  refine ok_iast C dX19_init_206 (fun s3 _ => ?_)
  refine ok_aload_n C 0 dX19_init_207 rfl ?_
  refine ok_getR C frX19_20_13 dX19_init_208 (fun q4 => ?_)
  refine ok_iconst C (v := 3) dX19_init_211 (by decide) ?_
  refine ok_aload_n C 1 dX19_init_212 rfl ?_
  refine ok_iconst C (v := 0) dX19_init_213 (by decide) ?_
  refine ok_aload_n C 1 dX19_init_214 rfl ?_
  refine ok_iconst C (v := 0) dX19_init_215 (by decide) ?_
  refine ok_iconst C (v := 2) dX19_init_216 (by decide) ?_
  refine ok_callVX C T [.int 0, .int 2] (F := fun sc => fX17_next sc a1 0 2) hsc (ctX17_next (C.2.2.2.2.2.2.2.2.1) a1 0 2) vlX19_63 viX17_next rfl rfl (by decide) rfl (by rw [hR.1, hR.2]; decide) (Nat.le_of_ble_eq_true rfl) dX19_init_217 (ok_qI fun v5 s6 => ?_)
  refine ok_if_ne C 228 dX19_init_220 (by decide) ?_ ?_
  · refine ok_iconst C (v := 4) dX19_init_228 (by decide) ?_
    exact oX19_init_229 C T hn hR hin hsc a0 a1 q4 3 a1 0 4 s6
  · refine ok_bipush C (v := 20) dX19_init_223 (by decide) ?_
    refine ok_goto C 229 dX19_init_225 (by decide) ?_
    exact oX19_init_229 C T hn hR hin hsc a0 a1 q4 3 a1 0 20 s6
set_option maxHeartbeats 4000000 in
theorem oX19_init_176 {Γ : CX} (C : OKC Γ cX19_init RX19 none) (T : ∀ z ∈ (cx_c Γ).exceptionTable.toList, False) (hn : cx_nL Γ = 5) (hR : cx_fr Γ = 10 ∧ cx_lo Γ = 254) (hin : (cx_meth Γ).name = yX19_init.name) {sc : Nat × (Nat → Int32)} (hsc : ax_scr (cx_ad Γ) = sc) : ∀ (a0 : Nat) (a1 : Nat) (t0 : Nat) (t1 : Int32) (t2 : Nat) (t3 : Int32) (t4 : Int32) (s0 : AS), OK Γ 176 [(0, .ref a0), (1, .ref a1)] [.int t4, .int t3, .ref t2, .int t1, .ref t0] (fX19_init_176 sc  a0 a1 t0 t1 t2 t3 t4 s0) s0 := by
  intro a0 a1 t0 t1 t2 t3 t4 s0
  unfold fX19_init_176
  refine ok_callVX C T [.int t3, .int t4] (F := fun sc => fX17_next sc t2 t3 t4) hsc (ctX17_next (C.2.2.2.2.2.2.2.2.1) t2 t3 t4) vlX19_63 viX17_next rfl rfl (by decide) rfl (by rw [hR.1, hR.2]; decide) (Nat.le_of_ble_eq_true rfl) dX19_init_176 (ok_qI fun v1 s2 => ?_)
  refine ok_iast C dX19_init_179 (fun s3 _ => ?_)
  refine ok_aload_n C 0 dX19_init_180 rfl ?_
  refine ok_getR C frX19_20_13 dX19_init_181 (fun q4 => ?_)
  refine ok_iconst C (v := 2) dX19_init_184 (by decide) ?_
  refine ok_aload_n C 1 dX19_init_185 rfl ?_
  refine ok_iconst C (v := 1) dX19_init_186 (by decide) ?_
  refine ok_aload_n C 1 dX19_init_187 rfl ?_
  refine ok_iconst C (v := 0) dX19_init_188 (by decide) ?_
  refine ok_iconst C (v := 2) dX19_init_189 (by decide) ?_
  refine ok_callVX C T [.int 0, .int 2] (F := fun sc => fX17_next sc a1 0 2) hsc (ctX17_next (C.2.2.2.2.2.2.2.2.1) a1 0 2) vlX19_63 viX17_next rfl rfl (by decide) rfl (by rw [hR.1, hR.2]; decide) (Nat.le_of_ble_eq_true rfl) dX19_init_190 (ok_qI fun v5 s6 => ?_)
  refine ok_if_ne C 201 dX19_init_193 (by decide) ?_ ?_
  · refine ok_bipush C (v := 6) dX19_init_201 (by decide) ?_
    exact oX19_init_203 C T hn hR hin hsc a0 a1 q4 2 a1 1 6 s6
  · refine ok_bipush C (v := 50) dX19_init_196 (by decide) ?_
    refine ok_goto C 203 dX19_init_198 (by decide) ?_
    exact oX19_init_203 C T hn hR hin hsc a0 a1 q4 2 a1 1 50 s6
set_option maxHeartbeats 4000000 in
theorem oX19_init_150 {Γ : CX} (C : OKC Γ cX19_init RX19 none) (T : ∀ z ∈ (cx_c Γ).exceptionTable.toList, False) (hn : cx_nL Γ = 5) (hR : cx_fr Γ = 10 ∧ cx_lo Γ = 254) (hin : (cx_meth Γ).name = yX19_init.name) {sc : Nat × (Nat → Int32)} (hsc : ax_scr (cx_ad Γ) = sc) : ∀ (a0 : Nat) (a1 : Nat) (t0 : Nat) (t1 : Int32) (t2 : Nat) (t3 : Int32) (t4 : Int32) (s0 : AS), OK Γ 150 [(0, .ref a0), (1, .ref a1)] [.int t4, .int t3, .ref t2, .int t1, .ref t0] (fX19_init_150 sc  a0 a1 t0 t1 t2 t3 t4 s0) s0 := by
  intro a0 a1 t0 t1 t2 t3 t4 s0
  unfold fX19_init_150
  refine ok_callVX C T [.int t3, .int t4] (F := fun sc => fX17_next sc t2 t3 t4) hsc (ctX17_next (C.2.2.2.2.2.2.2.2.1) t2 t3 t4) vlX19_63 viX17_next rfl rfl (by decide) rfl (by rw [hR.1, hR.2]; decide) (Nat.le_of_ble_eq_true rfl) dX19_init_150 (ok_qI fun v1 s2 => ?_)
  refine ok_iast C dX19_init_153 (fun s3 _ => ?_)
  refine ok_aload_n C 0 dX19_init_154 rfl ?_
  refine ok_getR C frX19_20_13 dX19_init_155 (fun q4 => ?_)
  refine ok_iconst C (v := 1) dX19_init_158 (by decide) ?_
  refine ok_aload_n C 1 dX19_init_159 rfl ?_
  refine ok_iconst C (v := 1) dX19_init_160 (by decide) ?_
  refine ok_aload_n C 1 dX19_init_161 rfl ?_
  refine ok_iconst C (v := 0) dX19_init_162 (by decide) ?_
  refine ok_iconst C (v := 2) dX19_init_163 (by decide) ?_
  refine ok_callVX C T [.int 0, .int 2] (F := fun sc => fX17_next sc a1 0 2) hsc (ctX17_next (C.2.2.2.2.2.2.2.2.1) a1 0 2) vlX19_63 viX17_next rfl rfl (by decide) rfl (by rw [hR.1, hR.2]; decide) (Nat.le_of_ble_eq_true rfl) dX19_init_164 (ok_qI fun v5 s6 => ?_)
  refine ok_if_ne C 175 dX19_init_167 (by decide) ?_ ?_
  · refine ok_iconst C (v := 3) dX19_init_175 (by decide) ?_
    exact oX19_init_176 C T hn hR hin hsc a0 a1 q4 1 a1 1 3 s6
  · refine ok_bipush C (v := 8) dX19_init_170 (by decide) ?_
    refine ok_goto C 176 dX19_init_172 (by decide) ?_
    exact oX19_init_176 C T hn hR hin hsc a0 a1 q4 1 a1 1 8 s6
set_option maxHeartbeats 4000000 in
theorem oX19_init {Γ : CX} (C : OKC Γ cX19_init RX19 none) (T : ∀ z ∈ (cx_c Γ).exceptionTable.toList, False) (hn : cx_nL Γ = 5) (hR : cx_fr Γ = 10 ∧ cx_lo Γ = 254) (hin : (cx_meth Γ).name = yX19_init.name) {sc : Nat × (Nat → Int32)} (hsc : ax_scr (cx_ad Γ) = sc) : ∀ (a0 : Nat) (a1 : Nat) (s0 : AS), OK Γ 0 [(0, .ref a0), (1, .ref a1)] [] (fX19_init sc a0 a1 s0) s0 := by
  intro a0 a1 s0
  unfold fX19_init
  refine ok_aload_n C 0 dX19_init_0 rfl ?_
  refine ok_objInit C kw_796 kw_48 kw_49 (by rw [hR.1]; decide) (by rw [hR.2]; exact Nat.le_of_ble_eq_true rfl) dX19_init_1 ?_
  refine ok_aload_n C 0 dX19_init_4 rfl ?_
  refine ok_new C (C0 := RJ4) ax_DF1 ⟨_, rfl⟩ kw_797 dX19_init_5 (fun q1 s2 => ?_)
  refine ok_dup C dX19_init_8 rfl ?_
  refine ok_ldcS C 36 rfl dX19_init_9 ?_
  refine ok_callI C T [.ref 1000036] (F := fJ4_init_a7421 q1 1000036) (ctJ4_init_a7421 (C.2.2.2.2.2.2.2.2.1) q1 1000036) vlX19_11 kw_799 rfl rfl (by rw [hR.1, hR.2]; decide) (Nat.le_of_ble_eq_true rfl) dX19_init_11 (ok_qV fun s3 => ?_)
  refine ok_putRF C flX19_14_13 (by first | exact Or.inl ⟨_, rfl⟩ | exact Or.inr ⟨_, rfl⟩) hin dX19_init_14 (fun s4 _ => ?_)
  refine ok_aload_n C 0 dX19_init_17 rfl ?_
  refine ok_bipush C (v := 8) dX19_init_18 (by decide) ?_
  refine ok_newI C kw_136 dX19_init_20 (fun q5 s6 => ?_)
  refine ok_putRF C flX19_20_13 (by first | exact Or.inl ⟨_, rfl⟩ | exact Or.inr ⟨_, rfl⟩) hin dX19_init_22 (fun s7 _ => ?_)
  refine ok_aload_n C 0 dX19_init_25 rfl ?_
  refine ok_iconst C (v := 4) dX19_init_26 (by decide) ?_
  refine ok_newI C kw_136 dX19_init_27 (fun q8 s9 => ?_)
  refine ok_putRF C flX19_24_13 (by first | exact Or.inl ⟨_, rfl⟩ | exact Or.inr ⟨_, rfl⟩) hin dX19_init_29 (fun s10 _ => ?_)
  refine ok_aload_n C 0 dX19_init_32 rfl ?_
  refine ok_iconst C (v := 4) dX19_init_33 (by decide) ?_
  refine ok_newI C kw_136 dX19_init_34 (fun q11 s12 => ?_)
  refine ok_putRF C flX19_27_13 (by first | exact Or.inl ⟨_, rfl⟩ | exact Or.inr ⟨_, rfl⟩) hin dX19_init_36 (fun s13 _ => ?_)
  refine ok_aload_n C 0 dX19_init_39 rfl ?_
  refine ok_iconst C (v := 4) dX19_init_40 (by decide) ?_
  refine ok_newI C kw_136 dX19_init_41 (fun q14 s15 => ?_)
  refine ok_putRF C flX19_30_13 (by first | exact Or.inl ⟨_, rfl⟩ | exact Or.inr ⟨_, rfl⟩) hin dX19_init_43 (fun s16 _ => ?_)
  refine ok_aload_n C 0 dX19_init_46 rfl ?_
  refine ok_bipush C (v := 6) dX19_init_47 (by decide) ?_
  refine ok_newI C kw_136 dX19_init_49 (fun q17 s18 => ?_)
  refine ok_putRF C flX19_33_13 (by first | exact Or.inl ⟨_, rfl⟩ | exact Or.inr ⟨_, rfl⟩) hin dX19_init_51 (fun s19 _ => ?_)
  refine ok_aload_n C 0 dX19_init_54 rfl ?_
  refine ok_iconst C (v := 4) dX19_init_55 (by decide) ?_
  refine ok_newZ C kw_134 dX19_init_56 (fun q20 s21 => ?_)
  refine ok_putRF C flX19_36_13 (by first | exact Or.inl ⟨_, rfl⟩ | exact Or.inr ⟨_, rfl⟩) hin dX19_init_58 (fun s22 _ => ?_)
  refine ok_aload_n C 0 dX19_init_61 rfl ?_
  refine ok_bipush C (v := 8) dX19_init_62 (by decide) ?_
  refine ok_bipush C (v := 6) dX19_init_64 (by decide) ?_
  refine ok_newM6 C kw_808 kw_136 dX19_init_66 (fun q23 s24 => ?_)
  refine ok_putRF C flX19_42_13 (by first | exact Or.inl ⟨_, rfl⟩ | exact Or.inr ⟨_, rfl⟩) hin dX19_init_70 (fun s25 _ => ?_)
  refine ok_aload_n C 0 dX19_init_73 rfl ?_
  refine ok_bipush C (v := 8) dX19_init_74 (by decide) ?_
  refine ok_sipush C (v := 600) dX19_init_76 (by decide) ?_
  refine ok_newM600 C kw_808 kw_136 dX19_init_79 (fun q26 s27 => ?_)
  refine ok_putRF C flX19_45_13 (by first | exact Or.inl ⟨_, rfl⟩ | exact Or.inr ⟨_, rfl⟩) hin dX19_init_83 (fun s28 _ => ?_)
  refine ok_aload_n C 0 dX19_init_86 rfl ?_
  refine ok_bipush C (v := 8) dX19_init_87 (by decide) ?_
  refine ok_newI C kw_136 dX19_init_89 (fun q29 s30 => ?_)
  refine ok_putRF C flX19_48_13 (by first | exact Or.inl ⟨_, rfl⟩ | exact Or.inr ⟨_, rfl⟩) hin dX19_init_91 (fun s31 _ => ?_)
  refine ok_aload_n C 0 dX19_init_94 rfl ?_
  refine ok_bipush C (v := 8) dX19_init_95 (by decide) ?_
  refine ok_newI C kw_136 dX19_init_97 (fun q32 s33 => ?_)
  refine ok_putRF C flX19_51_13 (by first | exact Or.inl ⟨_, rfl⟩ | exact Or.inr ⟨_, rfl⟩) hin dX19_init_99 (fun s34 _ => ?_)
  refine ok_aload_n C 0 dX19_init_102 rfl ?_
  refine ok_bipush C (v := 8) dX19_init_103 (by decide) ?_
  refine ok_newI C kw_136 dX19_init_105 (fun q35 s36 => ?_)
  refine ok_putRF C flX19_54_13 (by first | exact Or.inl ⟨_, rfl⟩ | exact Or.inr ⟨_, rfl⟩) hin dX19_init_107 (fun s37 _ => ?_)
  refine ok_aload_n C 0 dX19_init_110 rfl ?_
  refine ok_bipush C (v := 8) dX19_init_111 (by decide) ?_
  refine ok_newI C kw_136 dX19_init_113 (fun q38 s39 => ?_)
  refine ok_putRF C flX19_57_13 (by first | exact Or.inl ⟨_, rfl⟩ | exact Or.inr ⟨_, rfl⟩) hin dX19_init_115 (fun s40 _ => ?_)
  refine ok_aload_n C 0 dX19_init_118 rfl ?_
  refine ok_bipush C (v := 8) dX19_init_119 (by decide) ?_
  refine ok_newI C kw_136 dX19_init_121 (fun q41 s42 => ?_)
  refine ok_putRF C flX19_60_13 (by first | exact Or.inl ⟨_, rfl⟩ | exact Or.inr ⟨_, rfl⟩) hin dX19_init_123 (fun s43 _ => ?_)
  refine ok_aload_n C 0 dX19_init_126 rfl ?_
  refine ok_getR C frX19_20_13 dX19_init_127 (fun q44 => ?_)
  refine ok_iconst C (v := 0) dX19_init_130 (by decide) ?_
  refine ok_aload_n C 1 dX19_init_131 rfl ?_
  refine ok_bipush C (v := 10) dX19_init_132 (by decide) ?_
  refine ok_aload_n C 1 dX19_init_134 rfl ?_
  refine ok_iconst C (v := 0) dX19_init_135 (by decide) ?_
  refine ok_iconst C (v := 2) dX19_init_136 (by decide) ?_
  refine ok_callVX C T [.int 0, .int 2] (F := fun sc => fX17_next sc a1 0 2) hsc (ctX17_next (C.2.2.2.2.2.2.2.2.1) a1 0 2) vlX19_63 viX17_next rfl rfl (by decide) rfl (by rw [hR.1, hR.2]; decide) (Nat.le_of_ble_eq_true rfl) dX19_init_137 (ok_qI fun v45 s46 => ?_)
  refine ok_if_ne C 148 dX19_init_140 (by decide) ?_ ?_
  · refine ok_bipush C (v := 40) dX19_init_148 (by decide) ?_
    exact oX19_init_150 C T hn hR hin hsc a0 a1 q44 0 a1 10 40 s46
  · refine ok_bipush C (v := 120) dX19_init_143 (by decide) ?_
    refine ok_goto C 150 dX19_init_145 (by decide) ?_
    exact oX19_init_150 C T hn hR hin hsc a0 a1 q44 0 a1 10 120 s46
theorem ctX19_init {l : Launch} (hl : l.stackTraces = false) {D : va_G} {dA : Nat → ClassId} {B0 : Nat} (a0 : Nat) (a1 : Nat) : CtS l D dA B0 yX19_init (.code yX19_init cX19_init 5 (none) :: ax_ALL) 10 254 [.ref a0, .ref a1] (fun sc => fX19_init sc a0 a1) :=
  CtS.of hl (by decide +kernel) (Nat.le_of_ble_eq_true rfl) fun Γ C _ _ _ _ e5 e6 e7 T hin => oX19_init C T e5 ⟨e6, e7⟩ hin rfl a0 a1 _
/-! ChaseLockerLaw$World.<init>(LChaseLockerLaw$World;)V -/
def fX19_init__272  (a0 : Nat) (a1 : Nat) (s0 : AS) : Option AR :=
  gR s0 a1 13 9 (fun q1 =>
  gR s0 a0 13 9 (fun q2 =>
  cpI 100 .int s0 q1 0 q2 0 8 (fun s3 =>
  gR s3 a1 13 10 (fun q4 =>
  gR s3 a0 13 10 (fun q5 =>
  cpI 100 .int s3 q4 0 q5 0 8 (fun s6 =>
  gR s6 a1 13 11 (fun q7 =>
  gR s6 a0 13 11 (fun q8 =>
  cpI 100 .int s6 q7 0 q8 0 8 (fun s9 =>
  gR s9 a1 13 12 (fun q10 =>
  gR s9 a0 13 12 (fun q11 =>
  cpI 100 .int s9 q10 0 q11 0 8 (fun s12 =>
  gR s12 a1 13 13 (fun q13 =>
  gR s12 a0 13 13 (fun q14 =>
  cpI 100 .int s12 q13 0 q14 0 8 (fun s15 =>
  gI s15 a1 13 14 (fun v16 =>
  sI s15 a0 13 14 v16 (fun s17 =>
  gI s17 a1 13 15 (fun v18 =>
  sI s17 a0 13 15 v18 (fun s19 =>
  some (.inl none, s19))))))))))))))))))))
def fX19_init__214  : Nat → Nat → Nat → Int32 → AS → Option AR
  | 0, _, _, _, _ => none
  | n + 1, a0, a1, x2, s0 =>
    gR s0 a0 13 1 (fun q1 =>
    aI s0 q1 100 1 (fun v2 =>
    if v2 ≤ x2 then (
      fX19_init__272 a0 a1 s0)
    else (
      gR s0 a1 13 7 (fun q3 =>
      aR s0 q3 110 x2 (fun q4 =>
      gR s0 a0 13 7 (fun q5 =>
      aR s0 q5 110 x2 (fun q6 =>
      cpI 100 .int s0 q4 0 q6 0 6 (fun s7 =>
      gR s7 a1 13 8 (fun q8 =>
      aR s7 q8 110 x2 (fun q9 =>
      gR s7 a0 13 8 (fun q10 =>
      aR s7 q10 110 x2 (fun q11 =>
      gR s7 a1 13 10 (fun q12 =>
      aI s7 q12 100 x2 (fun v13 =>
      cpI 100 .int s7 q9 0 q11 0 v13 (fun s14 =>
      lt (x2 + 1) (fun v15 =>
      fX19_init__214 n a0 a1 v15 s14))))))))))))))))
def fX19_init_ (a0 : Nat) (a1 : Nat) (s0 : AS) : Option AR :=
  nO s0 1 4 (fun q1 s2 =>
  cS s2 (fJ4_init_a7421 q1 1000036 s2) (qV (fun s3 =>
  sR s3 a0 13 0 q1 (fun s4 =>
  nA s4 100 8 (fun q5 s6 =>
  sR s6 a0 13 1 q5 (fun s7 =>
  nA s7 100 4 (fun q8 s9 =>
  sR s9 a0 13 2 q8 (fun s10 =>
  nA s10 100 4 (fun q11 s12 =>
  sR s12 a0 13 3 q11 (fun s13 =>
  nA s13 100 4 (fun q14 s15 =>
  sR s15 a0 13 4 q14 (fun s16 =>
  nA s16 100 6 (fun q17 s18 =>
  sR s18 a0 13 5 q17 (fun s19 =>
  nA s19 101 4 (fun q20 s21 =>
  sR s21 a0 13 6 q20 (fun s22 =>
  nM6 s22 8 6 (fun q23 s24 =>
  sR s24 a0 13 7 q23 (fun s25 =>
  nM600 s25 8 600 (fun q26 s27 =>
  sR s27 a0 13 8 q26 (fun s28 =>
  nA s28 100 8 (fun q29 s30 =>
  sR s30 a0 13 9 q29 (fun s31 =>
  nA s31 100 8 (fun q32 s33 =>
  sR s33 a0 13 10 q32 (fun s34 =>
  nA s34 100 8 (fun q35 s36 =>
  sR s36 a0 13 11 q35 (fun s37 =>
  nA s37 100 8 (fun q38 s39 =>
  sR s39 a0 13 12 q38 (fun s40 =>
  nA s40 100 8 (fun q41 s42 =>
  sR s42 a0 13 13 q41 (fun s43 =>
  gR s43 a1 13 1 (fun q44 =>
  gR s43 a0 13 1 (fun q45 =>
  cpI 100 .int s43 q44 0 q45 0 8 (fun s46 =>
  gR s46 a1 13 2 (fun q47 =>
  gR s46 a0 13 2 (fun q48 =>
  cpI 100 .int s46 q47 0 q48 0 4 (fun s49 =>
  gR s49 a1 13 3 (fun q50 =>
  gR s49 a0 13 3 (fun q51 =>
  cpI 100 .int s49 q50 0 q51 0 4 (fun s52 =>
  gR s52 a1 13 4 (fun q53 =>
  gR s52 a0 13 4 (fun q54 =>
  cpI 100 .int s52 q53 0 q54 0 4 (fun s55 =>
  gR s55 a1 13 5 (fun q56 =>
  gR s55 a0 13 5 (fun q57 =>
  cpI 100 .int s55 q56 0 q57 0 6 (fun s58 =>
  gR s58 a1 13 6 (fun q59 =>
  gR s58 a0 13 6 (fun q60 =>
  cpI 101 .boolean s58 q59 0 q60 0 4 (fun s61 =>
  fX19_init__214 FU a0 a1 0 s61))))))))))))))))))))))))))))))))))))))))))))))))
set_option maxHeartbeats 4000000 in
theorem oX19_init__272 {Γ : CX} (C : OKC Γ cX19_init_ RX19 none) (T : ∀ z ∈ (cx_c Γ).exceptionTable.toList, False) (hn : cx_nL Γ = 3) (hR : cx_fr Γ = 10 ∧ cx_lo Γ = 254) (hin : (cx_meth Γ).name = yX19_init_.name) : ∀ (a0 : Nat) (a1 : Nat) (s0 : AS), OK Γ 272 [(0, .ref a0), (1, .ref a1)] [] (fX19_init__272  a0 a1 s0) s0 := by
  intro a0 a1 s0
  unfold fX19_init__272
  refine ok_aload_n C 1 dX19_init__272 rfl ?_
  refine ok_getR C frX19_48_13 dX19_init__273 (fun q1 => ?_)
  refine ok_iconst C (v := 0) dX19_init__276 (by decide) ?_
  refine ok_aload_n C 0 dX19_init__277 rfl ?_
  refine ok_getR C frX19_48_13 dX19_init__278 (fun q2 => ?_)
  refine ok_iconst C (v := 0) dX19_init__281 (by decide) ?_
  refine ok_bipush C (v := 8) dX19_init__282 (by decide) ?_
  refine ok_copyI C 100 0 clX19_105 (fun _ => rfl) rfl (by decide) (by decide) (by decide) (by decide) (by rw [hR.1]; decide) (by rw [hR.2]; exact Nat.le_of_ble_eq_true rfl) dX19_init__284 (fun s3 => ?_)
  refine ok_aload_n C 1 dX19_init__287 rfl ?_
  refine ok_getR C frX19_51_13 dX19_init__288 (fun q4 => ?_)
  refine ok_iconst C (v := 0) dX19_init__291 (by decide) ?_
  refine ok_aload_n C 0 dX19_init__292 rfl ?_
  refine ok_getR C frX19_51_13 dX19_init__293 (fun q5 => ?_)
  refine ok_iconst C (v := 0) dX19_init__296 (by decide) ?_
  refine ok_bipush C (v := 8) dX19_init__297 (by decide) ?_
  refine ok_copyI C 100 0 clX19_105 (fun _ => rfl) rfl (by decide) (by decide) (by decide) (by decide) (by rw [hR.1]; decide) (by rw [hR.2]; exact Nat.le_of_ble_eq_true rfl) dX19_init__299 (fun s6 => ?_)
  refine ok_aload_n C 1 dX19_init__302 rfl ?_
  refine ok_getR C frX19_54_13 dX19_init__303 (fun q7 => ?_)
  refine ok_iconst C (v := 0) dX19_init__306 (by decide) ?_
  refine ok_aload_n C 0 dX19_init__307 rfl ?_
  refine ok_getR C frX19_54_13 dX19_init__308 (fun q8 => ?_)
  refine ok_iconst C (v := 0) dX19_init__311 (by decide) ?_
  refine ok_bipush C (v := 8) dX19_init__312 (by decide) ?_
  refine ok_copyI C 100 0 clX19_105 (fun _ => rfl) rfl (by decide) (by decide) (by decide) (by decide) (by rw [hR.1]; decide) (by rw [hR.2]; exact Nat.le_of_ble_eq_true rfl) dX19_init__314 (fun s9 => ?_)
  refine ok_aload_n C 1 dX19_init__317 rfl ?_
  refine ok_getR C frX19_57_13 dX19_init__318 (fun q10 => ?_)
  refine ok_iconst C (v := 0) dX19_init__321 (by decide) ?_
  refine ok_aload_n C 0 dX19_init__322 rfl ?_
  refine ok_getR C frX19_57_13 dX19_init__323 (fun q11 => ?_)
  refine ok_iconst C (v := 0) dX19_init__326 (by decide) ?_
  refine ok_bipush C (v := 8) dX19_init__327 (by decide) ?_
  refine ok_copyI C 100 0 clX19_105 (fun _ => rfl) rfl (by decide) (by decide) (by decide) (by decide) (by rw [hR.1]; decide) (by rw [hR.2]; exact Nat.le_of_ble_eq_true rfl) dX19_init__329 (fun s12 => ?_)
  refine ok_aload_n C 1 dX19_init__332 rfl ?_
  refine ok_getR C frX19_60_13 dX19_init__333 (fun q13 => ?_)
  refine ok_iconst C (v := 0) dX19_init__336 (by decide) ?_
  refine ok_aload_n C 0 dX19_init__337 rfl ?_
  refine ok_getR C frX19_60_13 dX19_init__338 (fun q14 => ?_)
  refine ok_iconst C (v := 0) dX19_init__341 (by decide) ?_
  refine ok_bipush C (v := 8) dX19_init__342 (by decide) ?_
  refine ok_copyI C 100 0 clX19_105 (fun _ => rfl) rfl (by decide) (by decide) (by decide) (by decide) (by rw [hR.1]; decide) (by rw [hR.2]; exact Nat.le_of_ble_eq_true rfl) dX19_init__344 (fun s15 => ?_)
  refine ok_aload_n C 0 dX19_init__347 rfl ?_
  refine ok_aload_n C 1 dX19_init__348 rfl ?_
  refine ok_getI C frX19_89_13 dX19_init__349 (fun v16 => ?_)
  refine ok_putI C flX19_89_13 dX19_init__352 (fun s17 _ => ?_)
  refine ok_aload_n C 0 dX19_init__355 rfl ?_
  refine ok_aload_n C 1 dX19_init__356 rfl ?_
  refine ok_getI C frX19_69_13 dX19_init__357 (fun v18 => ?_)
  refine ok_putI C flX19_69_13 dX19_init__360 (fun s19 _ => ?_)
  exact ok_vreturn C dX19_init__363
set_option maxHeartbeats 4000000 in
theorem oX19_init__214 {Γ : CX} (C : OKC Γ cX19_init_ RX19 none) (T : ∀ z ∈ (cx_c Γ).exceptionTable.toList, False) (hn : cx_nL Γ = 3) (hR : cx_fr Γ = 10 ∧ cx_lo Γ = 254) (hin : (cx_meth Γ).name = yX19_init_.name) : ∀ (n : Nat) (a0 : Nat) (a1 : Nat) (x2 : Int32) (s0 : AS), OK Γ 214 [(0, .ref a0), (1, .ref a1), (2, .int x2)] [] (fX19_init__214 n a0 a1 x2 s0) s0 := by
  intro n
  induction n with
  | zero => intro _ _ _ s0; exact OK.none
  | succ n ih =>
    intro a0 a1 x2 s0
    rw [fX19_init__214]
    refine ok_iload_n C 2 dX19_init__214 rfl ?_
    refine ok_aload_n C 0 dX19_init__215 rfl ?_
    refine ok_getR C frX19_20_13 dX19_init__216 (fun q1 => ?_)
    refine ok_iconst C (v := 1) dX19_init__219 (by decide) ?_
    refine ok_iald C dX19_init__220 (fun v2 => ?_)
    refine ok_icmp_ge C 272 dX19_init__221 (by decide) ?_ ?_
    · refine OK.sub (lv' := [(0, .ref a0), (1, .ref a1)]) [0, 1] rfl ?_
      exact oX19_init__272 C T hn hR hin a0 a1 s0
    · refine ok_aload_n C 1 dX19_init__224 rfl ?_
      refine ok_getR C frX19_42_13 dX19_init__225 (fun q3 => ?_)
      refine ok_iload_n C 2 dX19_init__228 rfl ?_
      refine ok_aaldI C dX19_init__229 (fun q4 => ?_)
      refine ok_iconst C (v := 0) dX19_init__230 (by decide) ?_
      refine ok_aload_n C 0 dX19_init__231 rfl ?_
      refine ok_getR C frX19_42_13 dX19_init__232 (fun q5 => ?_)
      refine ok_iload_n C 2 dX19_init__235 rfl ?_
      refine ok_aaldI C dX19_init__236 (fun q6 => ?_)
      refine ok_iconst C (v := 0) dX19_init__237 (by decide) ?_
      refine ok_bipush C (v := 6) dX19_init__238 (by decide) ?_
      refine ok_copyI C 100 0 clX19_105 (fun _ => rfl) rfl (by decide) (by decide) (by decide) (by decide) (by rw [hR.1]; decide) (by rw [hR.2]; exact Nat.le_of_ble_eq_true rfl) dX19_init__240 (fun s7 => ?_)
      refine ok_aload_n C 1 dX19_init__243 rfl ?_
      refine ok_getR C frX19_45_13 dX19_init__244 (fun q8 => ?_)
      refine ok_iload_n C 2 dX19_init__247 rfl ?_
      refine ok_aaldI C dX19_init__248 (fun q9 => ?_)
      refine ok_iconst C (v := 0) dX19_init__249 (by decide) ?_
      refine ok_aload_n C 0 dX19_init__250 rfl ?_
      refine ok_getR C frX19_45_13 dX19_init__251 (fun q10 => ?_)
      refine ok_iload_n C 2 dX19_init__254 rfl ?_
      refine ok_aaldI C dX19_init__255 (fun q11 => ?_)
      refine ok_iconst C (v := 0) dX19_init__256 (by decide) ?_
      refine ok_aload_n C 1 dX19_init__257 rfl ?_
      refine ok_getR C frX19_51_13 dX19_init__258 (fun q12 => ?_)
      refine ok_iload_n C 2 dX19_init__261 rfl ?_
      refine ok_iald C dX19_init__262 (fun v13 => ?_)
      refine ok_copyI C 100 0 clX19_105 (fun _ => rfl) rfl (by decide) (by decide) (by decide) (by decide) (by rw [hR.1]; decide) (by rw [hR.2]; exact Nat.le_of_ble_eq_true rfl) dX19_init__263 (fun s14 => ?_)
      refine ok_iincL C 2 (c := 1) (fun v15 => [(2, .int v15), (0, .ref a0), (1, .ref a1)]) dX19_init__266 rfl rfl (by rw [hn]; decide) (fun _ => rfl) (fun v15 => ?_)
      refine ok_goto C 214 dX19_init__269 (by decide) ?_
      refine OK.sub (lv' := [(0, .ref a0), (1, .ref a1), (2, .int v15)]) [1, 2, 0] rfl ?_
      exact ih a0 a1 v15 s14
set_option maxHeartbeats 4000000 in
theorem oX19_init_ {Γ : CX} (C : OKC Γ cX19_init_ RX19 none) (T : ∀ z ∈ (cx_c Γ).exceptionTable.toList, False) (hn : cx_nL Γ = 3) (hR : cx_fr Γ = 10 ∧ cx_lo Γ = 254) (hin : (cx_meth Γ).name = yX19_init_.name) : ∀ (a0 : Nat) (a1 : Nat) (s0 : AS), OK Γ 0 [(0, .ref a0), (1, .ref a1)] [] (fX19_init_ a0 a1 s0) s0 := by
  intro a0 a1 s0
  unfold fX19_init_
  refine ok_aload_n C 0 dX19_init__0 rfl ?_
  refine ok_objInit C kw_796 kw_48 kw_49 (by rw [hR.1]; decide) (by rw [hR.2]; exact Nat.le_of_ble_eq_true rfl) dX19_init__1 ?_
  refine ok_aload_n C 0 dX19_init__4 rfl ?_
  refine ok_new C (C0 := RJ4) ax_DF1 ⟨_, rfl⟩ kw_797 dX19_init__5 (fun q1 s2 => ?_)
  refine ok_dup C dX19_init__8 rfl ?_
  refine ok_ldcS C 36 rfl dX19_init__9 ?_
  refine ok_callI C T [.ref 1000036] (F := fJ4_init_a7421 q1 1000036) (ctJ4_init_a7421 (C.2.2.2.2.2.2.2.2.1) q1 1000036) vlX19_11 kw_799 rfl rfl (by rw [hR.1, hR.2]; decide) (Nat.le_of_ble_eq_true rfl) dX19_init__11 (ok_qV fun s3 => ?_)
  refine ok_putRF C flX19_14_13 (by first | exact Or.inl ⟨_, rfl⟩ | exact Or.inr ⟨_, rfl⟩) hin dX19_init__14 (fun s4 _ => ?_)
  refine ok_aload_n C 0 dX19_init__17 rfl ?_
  refine ok_bipush C (v := 8) dX19_init__18 (by decide) ?_
  refine ok_newI C kw_136 dX19_init__20 (fun q5 s6 => ?_)
  refine ok_putRF C flX19_20_13 (by first | exact Or.inl ⟨_, rfl⟩ | exact Or.inr ⟨_, rfl⟩) hin dX19_init__22 (fun s7 _ => ?_)
  refine ok_aload_n C 0 dX19_init__25 rfl ?_
  refine ok_iconst C (v := 4) dX19_init__26 (by decide) ?_
  refine ok_newI C kw_136 dX19_init__27 (fun q8 s9 => ?_)
  refine ok_putRF C flX19_24_13 (by first | exact Or.inl ⟨_, rfl⟩ | exact Or.inr ⟨_, rfl⟩) hin dX19_init__29 (fun s10 _ => ?_)
  refine ok_aload_n C 0 dX19_init__32 rfl ?_
  refine ok_iconst C (v := 4) dX19_init__33 (by decide) ?_
  refine ok_newI C kw_136 dX19_init__34 (fun q11 s12 => ?_)
  refine ok_putRF C flX19_27_13 (by first | exact Or.inl ⟨_, rfl⟩ | exact Or.inr ⟨_, rfl⟩) hin dX19_init__36 (fun s13 _ => ?_)
  refine ok_aload_n C 0 dX19_init__39 rfl ?_
  refine ok_iconst C (v := 4) dX19_init__40 (by decide) ?_
  refine ok_newI C kw_136 dX19_init__41 (fun q14 s15 => ?_)
  refine ok_putRF C flX19_30_13 (by first | exact Or.inl ⟨_, rfl⟩ | exact Or.inr ⟨_, rfl⟩) hin dX19_init__43 (fun s16 _ => ?_)
  refine ok_aload_n C 0 dX19_init__46 rfl ?_
  refine ok_bipush C (v := 6) dX19_init__47 (by decide) ?_
  refine ok_newI C kw_136 dX19_init__49 (fun q17 s18 => ?_)
  refine ok_putRF C flX19_33_13 (by first | exact Or.inl ⟨_, rfl⟩ | exact Or.inr ⟨_, rfl⟩) hin dX19_init__51 (fun s19 _ => ?_)
  refine ok_aload_n C 0 dX19_init__54 rfl ?_
  refine ok_iconst C (v := 4) dX19_init__55 (by decide) ?_
  refine ok_newZ C kw_134 dX19_init__56 (fun q20 s21 => ?_)
  refine ok_putRF C flX19_36_13 (by first | exact Or.inl ⟨_, rfl⟩ | exact Or.inr ⟨_, rfl⟩) hin dX19_init__58 (fun s22 _ => ?_)
  refine ok_aload_n C 0 dX19_init__61 rfl ?_
  refine ok_bipush C (v := 8) dX19_init__62 (by decide) ?_
  refine ok_bipush C (v := 6) dX19_init__64 (by decide) ?_
  refine ok_newM6 C kw_808 kw_136 dX19_init__66 (fun q23 s24 => ?_)
  refine ok_putRF C flX19_42_13 (by first | exact Or.inl ⟨_, rfl⟩ | exact Or.inr ⟨_, rfl⟩) hin dX19_init__70 (fun s25 _ => ?_)
  refine ok_aload_n C 0 dX19_init__73 rfl ?_
  refine ok_bipush C (v := 8) dX19_init__74 (by decide) ?_
  refine ok_sipush C (v := 600) dX19_init__76 (by decide) ?_
  refine ok_newM600 C kw_808 kw_136 dX19_init__79 (fun q26 s27 => ?_)
  refine ok_putRF C flX19_45_13 (by first | exact Or.inl ⟨_, rfl⟩ | exact Or.inr ⟨_, rfl⟩) hin dX19_init__83 (fun s28 _ => ?_)
  refine ok_aload_n C 0 dX19_init__86 rfl ?_
  refine ok_bipush C (v := 8) dX19_init__87 (by decide) ?_
  refine ok_newI C kw_136 dX19_init__89 (fun q29 s30 => ?_)
  refine ok_putRF C flX19_48_13 (by first | exact Or.inl ⟨_, rfl⟩ | exact Or.inr ⟨_, rfl⟩) hin dX19_init__91 (fun s31 _ => ?_)
  refine ok_aload_n C 0 dX19_init__94 rfl ?_
  refine ok_bipush C (v := 8) dX19_init__95 (by decide) ?_
  refine ok_newI C kw_136 dX19_init__97 (fun q32 s33 => ?_)
  refine ok_putRF C flX19_51_13 (by first | exact Or.inl ⟨_, rfl⟩ | exact Or.inr ⟨_, rfl⟩) hin dX19_init__99 (fun s34 _ => ?_)
  refine ok_aload_n C 0 dX19_init__102 rfl ?_
  refine ok_bipush C (v := 8) dX19_init__103 (by decide) ?_
  refine ok_newI C kw_136 dX19_init__105 (fun q35 s36 => ?_)
  refine ok_putRF C flX19_54_13 (by first | exact Or.inl ⟨_, rfl⟩ | exact Or.inr ⟨_, rfl⟩) hin dX19_init__107 (fun s37 _ => ?_)
  refine ok_aload_n C 0 dX19_init__110 rfl ?_
  refine ok_bipush C (v := 8) dX19_init__111 (by decide) ?_
  refine ok_newI C kw_136 dX19_init__113 (fun q38 s39 => ?_)
  refine ok_putRF C flX19_57_13 (by first | exact Or.inl ⟨_, rfl⟩ | exact Or.inr ⟨_, rfl⟩) hin dX19_init__115 (fun s40 _ => ?_)
  refine ok_aload_n C 0 dX19_init__118 rfl ?_
  refine ok_bipush C (v := 8) dX19_init__119 (by decide) ?_
  refine ok_newI C kw_136 dX19_init__121 (fun q41 s42 => ?_)
  refine ok_putRF C flX19_60_13 (by first | exact Or.inl ⟨_, rfl⟩ | exact Or.inr ⟨_, rfl⟩) hin dX19_init__123 (fun s43 _ => ?_)
  refine ok_aload_n C 1 dX19_init__126 rfl ?_
  refine ok_getR C frX19_20_13 dX19_init__127 (fun q44 => ?_)
  refine ok_iconst C (v := 0) dX19_init__130 (by decide) ?_
  refine ok_aload_n C 0 dX19_init__131 rfl ?_
  refine ok_getR C frX19_20_13 dX19_init__132 (fun q45 => ?_)
  refine ok_iconst C (v := 0) dX19_init__135 (by decide) ?_
  refine ok_bipush C (v := 8) dX19_init__136 (by decide) ?_
  refine ok_copyI C 100 0 clX19_105 (fun _ => rfl) rfl (by decide) (by decide) (by decide) (by decide) (by rw [hR.1]; decide) (by rw [hR.2]; exact Nat.le_of_ble_eq_true rfl) dX19_init__138 (fun s46 => ?_)
  refine ok_aload_n C 1 dX19_init__141 rfl ?_
  refine ok_getR C frX19_24_13 dX19_init__142 (fun q47 => ?_)
  refine ok_iconst C (v := 0) dX19_init__145 (by decide) ?_
  refine ok_aload_n C 0 dX19_init__146 rfl ?_
  refine ok_getR C frX19_24_13 dX19_init__147 (fun q48 => ?_)
  refine ok_iconst C (v := 0) dX19_init__150 (by decide) ?_
  refine ok_iconst C (v := 4) dX19_init__151 (by decide) ?_
  refine ok_copyI C 100 0 clX19_105 (fun _ => rfl) rfl (by decide) (by decide) (by decide) (by decide) (by rw [hR.1]; decide) (by rw [hR.2]; exact Nat.le_of_ble_eq_true rfl) dX19_init__152 (fun s49 => ?_)
  refine ok_aload_n C 1 dX19_init__155 rfl ?_
  refine ok_getR C frX19_27_13 dX19_init__156 (fun q50 => ?_)
  refine ok_iconst C (v := 0) dX19_init__159 (by decide) ?_
  refine ok_aload_n C 0 dX19_init__160 rfl ?_
  refine ok_getR C frX19_27_13 dX19_init__161 (fun q51 => ?_)
  refine ok_iconst C (v := 0) dX19_init__164 (by decide) ?_
  refine ok_iconst C (v := 4) dX19_init__165 (by decide) ?_
  refine ok_copyI C 100 0 clX19_105 (fun _ => rfl) rfl (by decide) (by decide) (by decide) (by decide) (by rw [hR.1]; decide) (by rw [hR.2]; exact Nat.le_of_ble_eq_true rfl) dX19_init__166 (fun s52 => ?_)
  refine ok_aload_n C 1 dX19_init__169 rfl ?_
  refine ok_getR C frX19_30_13 dX19_init__170 (fun q53 => ?_)
  refine ok_iconst C (v := 0) dX19_init__173 (by decide) ?_
  refine ok_aload_n C 0 dX19_init__174 rfl ?_
  refine ok_getR C frX19_30_13 dX19_init__175 (fun q54 => ?_)
  refine ok_iconst C (v := 0) dX19_init__178 (by decide) ?_
  refine ok_iconst C (v := 4) dX19_init__179 (by decide) ?_
  refine ok_copyI C 100 0 clX19_105 (fun _ => rfl) rfl (by decide) (by decide) (by decide) (by decide) (by rw [hR.1]; decide) (by rw [hR.2]; exact Nat.le_of_ble_eq_true rfl) dX19_init__180 (fun s55 => ?_)
  refine ok_aload_n C 1 dX19_init__183 rfl ?_
  refine ok_getR C frX19_33_13 dX19_init__184 (fun q56 => ?_)
  refine ok_iconst C (v := 0) dX19_init__187 (by decide) ?_
  refine ok_aload_n C 0 dX19_init__188 rfl ?_
  refine ok_getR C frX19_33_13 dX19_init__189 (fun q57 => ?_)
  refine ok_iconst C (v := 0) dX19_init__192 (by decide) ?_
  refine ok_bipush C (v := 6) dX19_init__193 (by decide) ?_
  refine ok_copyI C 100 0 clX19_105 (fun _ => rfl) rfl (by decide) (by decide) (by decide) (by decide) (by rw [hR.1]; decide) (by rw [hR.2]; exact Nat.le_of_ble_eq_true rfl) dX19_init__195 (fun s58 => ?_)
  refine ok_aload_n C 1 dX19_init__198 rfl ?_
  refine ok_getR C frX19_36_13 dX19_init__199 (fun q59 => ?_)
  refine ok_iconst C (v := 0) dX19_init__202 (by decide) ?_
  refine ok_aload_n C 0 dX19_init__203 rfl ?_
  refine ok_getR C frX19_36_13 dX19_init__204 (fun q60 => ?_)
  refine ok_iconst C (v := 0) dX19_init__207 (by decide) ?_
  refine ok_iconst C (v := 4) dX19_init__208 (by decide) ?_
  refine ok_copyI C 101 1 clX19_105 (fun _ => rfl) rfl (by decide) (by decide) (by decide) (by decide) (by rw [hR.1]; decide) (by rw [hR.2]; exact Nat.le_of_ble_eq_true rfl) dX19_init__209 (fun s61 => ?_)
  refine ok_iconst C (v := 0) dX19_init__212 (by decide) ?_
  refine ok_istore_n C (i := 2) [(2, .int 0), (0, .ref a0), (1, .ref a1)] dX19_init__213 rfl (by rw [hn]; decide) rfl ?_
  refine OK.sub (lv' := [(0, .ref a0), (1, .ref a1), (2, .int 0)]) [1, 2, 0] rfl ?_
  exact oX19_init__214 C T hn hR hin FU a0 a1 0 s61
theorem ctX19_init_ {l : Launch} (hl : l.stackTraces = false) {D : va_G} {dA : Nat → ClassId} {B0 : Nat} (a0 : Nat) (a1 : Nat) : Ct l D dA B0 yX19_init_ (.code yX19_init_ cX19_init_ 3 (none) :: ax_ALL) 10 254 [.ref a0, .ref a1] (fX19_init_ a0 a1) :=
  Ct.of hl (by decide +kernel) (Nat.le_of_ble_eq_true rfl) fun Γ C _ _ _ _ e5 e6 e7 T hin => oX19_init_ C T e5 ⟨e6, e7⟩ hin a0 a1 _
/-! ChaseLockerLaw$World.wood(I)I -/
def fX19_wood_36 (r4 : Nat → Int32 → Int32 → Int32 → AS → Option AR) (a0 : Nat) (x1 : Int32) (x3 : Int32) (t0 : Int32) (t1 : Int32) (s0 : AS) : Option AR :=
  lt (t0 + t1) (fun v1 =>
  lt (x3 + 1) (fun v2 =>
  r4 a0 x1 v1 v2 s0))
def fX19_wood_4  : Nat → Nat → Int32 → Int32 → Int32 → AS → Option AR
  | 0, _, _, _, _, _ => none
  | n + 1, a0, x1, x2, x3, s0 =>
    gR s0 a0 13 10 (fun q1 =>
    aI s0 q1 100 x1 (fun v2 =>
    if v2 ≤ x3 then (
      some (.inl (some (.int x2)), s0))
    else (
      gR s0 a0 13 6 (fun q3 =>
      gR s0 a0 13 8 (fun q4 =>
      aR s0 q4 110 x1 (fun q5 =>
      aI s0 q5 100 x3 (fun v6 =>
      aI s0 q3 101 v6 (fun v7 =>
      if v7 = 0 then (
        fX19_wood_36 (fX19_wood_4 n) a0 x1 x3 x2 1 s0)
      else (
        fX19_wood_36 (fX19_wood_4 n) a0 x1 x3 x2 0 s0)))))))))
def fX19_wood (a0 : Nat) (x1 : Int32) (s0 : AS) : Option AR :=
  fX19_wood_4 FU a0 x1 0 0 s0
set_option maxHeartbeats 4000000 in
theorem oX19_wood_36 {Γ : CX} (C : OKC Γ cX19_wood RX19 (some (.int))) (T : ∀ z ∈ (cx_c Γ).exceptionTable.toList, False) (hn : cx_nL Γ = 4) (hR : cx_fr Γ = 1 ∧ cx_lo Γ = 60) (hin : (cx_meth Γ).name = yX19_wood.name) {r4 : Nat → Int32 → Int32 → Int32 → AS → Option AR} (h4 : ∀ (a0 : Nat) (x1 : Int32) (x2 : Int32) (x3 : Int32) (s0 : AS), OK Γ 4 [(0, .ref a0), (1, .int x1), (2, .int x2), (3, .int x3)] [] (r4 a0 x1 x2 x3 s0) s0) : ∀ (a0 : Nat) (x1 : Int32) (x3 : Int32) (t0 : Int32) (t1 : Int32) (s0 : AS), OK Γ 36 [(0, .ref a0), (1, .int x1), (3, .int x3)] [.int t1, .int t0] (fX19_wood_36 r4 a0 x1 x3 t0 t1 s0) s0 := by
  intro a0 x1 x3 t0 t1 s0
  unfold fX19_wood_36
  refine ok_iadd C dX19_wood_36 ?_
  refine ok_lt (fun v1 => ?_)
  refine ok_istore_n C (i := 2) [(2, .int v1), (0, .ref a0), (1, .int x1), (3, .int x3)] dX19_wood_37 rfl (by rw [hn]; decide) rfl ?_
  refine ok_iincL C 3 (c := 1) (fun v2 => [(3, .int v2), (2, .int v1), (0, .ref a0), (1, .int x1)]) dX19_wood_38 rfl rfl (by rw [hn]; decide) (fun _ => rfl) (fun v2 => ?_)
  refine ok_goto C 4 dX19_wood_41 (by decide) ?_
  refine OK.sub (lv' := [(0, .ref a0), (1, .int x1), (2, .int v1), (3, .int v2)]) [2, 3, 1, 0] rfl ?_
  exact h4 a0 x1 v1 v2 s0
set_option maxHeartbeats 4000000 in
theorem oX19_wood_4 {Γ : CX} (C : OKC Γ cX19_wood RX19 (some (.int))) (T : ∀ z ∈ (cx_c Γ).exceptionTable.toList, False) (hn : cx_nL Γ = 4) (hR : cx_fr Γ = 1 ∧ cx_lo Γ = 60) (hin : (cx_meth Γ).name = yX19_wood.name) : ∀ (n : Nat) (a0 : Nat) (x1 : Int32) (x2 : Int32) (x3 : Int32) (s0 : AS), OK Γ 4 [(0, .ref a0), (1, .int x1), (2, .int x2), (3, .int x3)] [] (fX19_wood_4 n a0 x1 x2 x3 s0) s0 := by
  intro n
  induction n with
  | zero => intro _ _ _ _ s0; exact OK.none
  | succ n ih =>
    intro a0 x1 x2 x3 s0
    rw [fX19_wood_4]
    refine ok_iload_n C 3 dX19_wood_4 rfl ?_
    refine ok_aload_n C 0 dX19_wood_5 rfl ?_
    refine ok_getR C frX19_51_13 dX19_wood_6 (fun q1 => ?_)
    refine ok_iload_n C 1 dX19_wood_9 rfl ?_
    refine ok_iald C dX19_wood_10 (fun v2 => ?_)
    refine ok_icmp_ge C 44 dX19_wood_11 (by decide) ?_ ?_
    · refine ok_iload_n C 2 dX19_wood_44 rfl ?_
      exact ok_ireturn C dX19_wood_45
    · refine ok_iload_n C 2 dX19_wood_14 rfl ?_
      refine ok_aload_n C 0 dX19_wood_15 rfl ?_
      refine ok_getR C frX19_36_13 dX19_wood_16 (fun q3 => ?_)
      refine ok_aload_n C 0 dX19_wood_19 rfl ?_
      refine ok_getR C frX19_45_13 dX19_wood_20 (fun q4 => ?_)
      refine ok_iload_n C 1 dX19_wood_23 rfl ?_
      refine ok_aaldI C dX19_wood_24 (fun q5 => ?_)
      refine ok_iload_n C 3 dX19_wood_25 rfl ?_
      refine ok_iald C dX19_wood_26 (fun v6 => ?_)
      refine ok_zald C dX19_wood_27 (fun v7 => ?_)
      refine ok_if_eq C 35 dX19_wood_28 (by decide) ?_ ?_
      · refine ok_iconst C (v := 1) dX19_wood_35 (by decide) ?_
        refine OK.sub (lv' := [(0, .ref a0), (1, .int x1), (3, .int x3)]) [0, 1, 3] rfl ?_
        exact oX19_wood_36 C T hn hR hin ih a0 x1 x3 x2 1 s0
      · refine ok_iconst C (v := 0) dX19_wood_31 (by decide) ?_
        refine ok_goto C 36 dX19_wood_32 (by decide) ?_
        refine OK.sub (lv' := [(0, .ref a0), (1, .int x1), (3, .int x3)]) [0, 1, 3] rfl ?_
        exact oX19_wood_36 C T hn hR hin ih a0 x1 x3 x2 0 s0
set_option maxHeartbeats 4000000 in
theorem oX19_wood {Γ : CX} (C : OKC Γ cX19_wood RX19 (some (.int))) (T : ∀ z ∈ (cx_c Γ).exceptionTable.toList, False) (hn : cx_nL Γ = 4) (hR : cx_fr Γ = 1 ∧ cx_lo Γ = 60) (hin : (cx_meth Γ).name = yX19_wood.name) : ∀ (a0 : Nat) (x1 : Int32) (s0 : AS), OK Γ 0 [(0, .ref a0), (1, .int x1)] [] (fX19_wood a0 x1 s0) s0 := by
  intro a0 x1 s0
  unfold fX19_wood
  refine ok_iconst C (v := 0) dX19_wood_0 (by decide) ?_
  refine ok_istore_n C (i := 2) [(2, .int 0), (0, .ref a0), (1, .int x1)] dX19_wood_1 rfl (by rw [hn]; decide) rfl ?_
  refine ok_iconst C (v := 0) dX19_wood_2 (by decide) ?_
  refine ok_istore_n C (i := 3) [(3, .int 0), (2, .int 0), (0, .ref a0), (1, .int x1)] dX19_wood_3 rfl (by rw [hn]; decide) rfl ?_
  refine OK.sub (lv' := [(0, .ref a0), (1, .int x1), (2, .int 0), (3, .int 0)]) [2, 3, 1, 0] rfl ?_
  exact oX19_wood_4 C T hn hR hin FU a0 x1 0 0 s0
theorem ctX19_wood {l : Launch} (hl : l.stackTraces = false) {D : va_G} {dA : Nat → ClassId} {B0 : Nat} (a0 : Nat) (x1 : Int32) : Ct l D dA B0 yX19_wood (.code yX19_wood cX19_wood 4 (some (.int)) :: ax_ALL) 1 60 [.ref a0, .int x1] (fX19_wood a0 x1) :=
  Ct.of hl (by decide +kernel) (Nat.le_of_ble_eq_true rfl) fun Γ C _ _ _ _ e5 e6 e7 T hin => oX19_wood C T e5 ⟨e6, e7⟩ hin a0 x1 _
/-! ChaseLockerLaw$World.isTight(I)Z -/
def fX19_isTight (a0 : Nat) (x1 : Int32) (s0 : AS) : Option AR :=
  cV s0 a0 13 (fX19_gap a0 x1 s0) (qI (fun v1 s2 =>
  if v1 = 0 then (
    gR s2 a0 13 13 (fun q3 =>
    aI s2 q3 100 x1 (fun v4 =>
    if v4 = 0 then (
      rZ 1 s2)
    else (
      rZ 0 s2))))
  else (
    rZ 0 s2)))
set_option maxHeartbeats 4000000 in
theorem oX19_isTight {Γ : CX} (C : OKC Γ cX19_isTight RX19 (some (.boolean))) (T : ∀ z ∈ (cx_c Γ).exceptionTable.toList, False) (hn : cx_nL Γ = 2) (hR : cx_fr Γ = 4 ∧ cx_lo Γ = 127) (hin : (cx_meth Γ).name = yX19_isTight.name) : ∀ (a0 : Nat) (x1 : Int32) (s0 : AS), OK Γ 0 [(0, .ref a0), (1, .int x1)] [] (fX19_isTight a0 x1 s0) s0 := by
  intro a0 x1 s0
  unfold fX19_isTight
  refine ok_aload_n C 0 dX19_isTight_0 rfl ?_
  refine ok_iload_n C 1 dX19_isTight_1 rfl ?_
  refine ok_callV C T [.int x1] (F := fX19_gap a0 x1) (ctX19_gap (C.2.2.2.2.2.2.2.2.1) a0 x1) vlX19_98 viX19_gap rfl rfl (by decide) rfl (by rw [hR.1, hR.2]; decide) (Nat.le_of_ble_eq_true rfl) dX19_isTight_2 (ok_qI fun v1 s2 => ?_)
  refine ok_if_ne C 21 dX19_isTight_5 (by decide) ?_ ?_
  · refine ok_iconst C (v := 0) dX19_isTight_21 (by decide) ?_
    exact ok_zreturn C dX19_isTight_22
  · refine ok_aload_n C 0 dX19_isTight_8 rfl ?_
    refine ok_getR C frX19_60_13 dX19_isTight_9 (fun q3 => ?_)
    refine ok_iload_n C 1 dX19_isTight_12 rfl ?_
    refine ok_iald C dX19_isTight_13 (fun v4 => ?_)
    refine ok_if_ne C 21 dX19_isTight_14 (by decide) ?_ ?_
    · refine ok_iconst C (v := 0) dX19_isTight_21 (by decide) ?_
      exact ok_zreturn C dX19_isTight_22
    · refine ok_iconst C (v := 1) dX19_isTight_17 (by decide) ?_
      refine ok_goto C 22 dX19_isTight_18 (by decide) ?_
      exact ok_zreturn C dX19_isTight_22
theorem ctX19_isTight {l : Launch} (hl : l.stackTraces = false) {D : va_G} {dA : Nat → ClassId} {B0 : Nat} (a0 : Nat) (x1 : Int32) : Ct l D dA B0 yX19_isTight (.code yX19_isTight cX19_isTight 2 (some (.boolean)) :: ax_ALL) 4 127 [.ref a0, .int x1] (fX19_isTight a0 x1) :=
  Ct.of hl (by decide +kernel) (Nat.le_of_ble_eq_true rfl) fun Γ C _ _ _ _ e5 e6 e7 T hin => oX19_isTight C T e5 ⟨e6, e7⟩ hin a0 x1 _
/-! ChaseLockerLaw$World.loose(I)I -/
def fX19_loose (a0 : Nat) (x1 : Int32) (s0 : AS) : Option AR :=
  gR s0 a0 13 13 (fun q1 =>
  aI s0 q1 100 x1 (fun v2 =>
  cV s0 a0 13 (fX19_gap a0 x1 s0) (qI (fun v3 s4 =>
  some (.inl (some (.int (v2 + (10 * v3)))), s4)))))
set_option maxHeartbeats 4000000 in
theorem oX19_loose {Γ : CX} (C : OKC Γ cX19_loose RX19 (some (.int))) (T : ∀ z ∈ (cx_c Γ).exceptionTable.toList, False) (hn : cx_nL Γ = 2) (hR : cx_fr Γ = 4 ∧ cx_lo Γ = 127) (hin : (cx_meth Γ).name = yX19_loose.name) : ∀ (a0 : Nat) (x1 : Int32) (s0 : AS), OK Γ 0 [(0, .ref a0), (1, .int x1)] [] (fX19_loose a0 x1 s0) s0 := by
  intro a0 x1 s0
  unfold fX19_loose
  refine ok_aload_n C 0 dX19_loose_0 rfl ?_
  refine ok_getR C frX19_60_13 dX19_loose_1 (fun q1 => ?_)
  refine ok_iload_n C 1 dX19_loose_4 rfl ?_
  refine ok_iald C dX19_loose_5 (fun v2 => ?_)
  refine ok_bipush C (v := 10) dX19_loose_6 (by decide) ?_
  refine ok_aload_n C 0 dX19_loose_8 rfl ?_
  refine ok_iload_n C 1 dX19_loose_9 rfl ?_
  refine ok_callV C T [.int x1] (F := fX19_gap a0 x1) (ctX19_gap (C.2.2.2.2.2.2.2.2.1) a0 x1) vlX19_98 viX19_gap rfl rfl (by decide) rfl (by rw [hR.1, hR.2]; decide) (Nat.le_of_ble_eq_true rfl) dX19_loose_10 (ok_qI fun v3 s4 => ?_)
  refine ok_imul C dX19_loose_13 ?_
  refine ok_iadd C dX19_loose_14 ?_
  exact ok_ireturn C dX19_loose_15
theorem ctX19_loose {l : Launch} (hl : l.stackTraces = false) {D : va_G} {dA : Nat → ClassId} {B0 : Nat} (a0 : Nat) (x1 : Int32) : Ct l D dA B0 yX19_loose (.code yX19_loose cX19_loose 2 (some (.int)) :: ax_ALL) 4 127 [.ref a0, .int x1] (fX19_loose a0 x1) :=
  Ct.of hl (by decide +kernel) (Nat.le_of_ble_eq_true rfl) fun Γ C _ _ _ _ e5 e6 e7 T hin => oX19_loose C T e5 ⟨e6, e7⟩ hin a0 x1 _
/-! ChaseLockerLaw$World.unlock(I)I -/
def fX19_unlock_70  (a0 : Nat) (x1 : Int32) (x2 : Int32) (s0 : AS) : Option AR :=
  gR s0 a0 13 11 (fun q1 =>
  uI s0 q1 x1 ((-1)) (fun s2 =>
  gR s2 a0 13 12 (fun q3 =>
  uI s2 q3 x1 0 (fun s4 =>
  some (.inl (some (.int x2)), s4)))))
def fX19_unlock_37  (a0 : Nat) (x1 : Int32) (x2 : Int32) (s0 : AS) : Option AR :=
  gR s0 a0 13 10 (fun q1 =>
  uI s0 q1 x1 0 (fun s2 =>
  gR s2 a0 13 13 (fun q3 =>
  uI s2 q3 x1 0 (fun s4 =>
  gR s4 a0 13 11 (fun q5 =>
  aI s4 q5 100 x1 (fun v6 =>
  if v6 < 0 then (
    fX19_unlock_70 a0 x1 x2 s4)
  else (
    gI s4 a0 13 15 (fun v7 =>
    sI s4 a0 13 15 (v7 + 1) (fun s8 =>
    fX19_unlock_70 a0 x1 x2 s8)))))))))
def fX19_unlock_9  : Nat → Nat → Int32 → Int32 → Int32 → AS → Option AR
  | 0, _, _, _, _, _ => none
  | n + 1, a0, x1, x2, x3, s0 =>
    if x2 ≤ x3 then (
      fX19_unlock_37 a0 x1 x2 s0)
    else (
      gR s0 a0 13 3 (fun q1 =>
      gR s0 a0 13 8 (fun q2 =>
      aR s0 q2 110 x1 (fun q3 =>
      aI s0 q3 100 x3 (fun v4 =>
      aI s0 q1 100 v4 (fun v5 =>
      uI s0 q1 v4 (v5 + 1) (fun s6 =>
      lt (x3 + 1) (fun v7 =>
      fX19_unlock_9 n a0 x1 x2 v7 s6))))))))
def fX19_unlock (a0 : Nat) (x1 : Int32) (s0 : AS) : Option AR :=
  gR s0 a0 13 10 (fun q1 =>
  aI s0 q1 100 x1 (fun v2 =>
  fX19_unlock_9 FU a0 x1 v2 0 s0))
set_option maxHeartbeats 4000000 in
theorem oX19_unlock_70 {Γ : CX} (C : OKC Γ cX19_unlock RX19 (some (.int))) (T : ∀ z ∈ (cx_c Γ).exceptionTable.toList, False) (hn : cx_nL Γ = 4) (hR : cx_fr Γ = 1 ∧ cx_lo Γ = 60) (hin : (cx_meth Γ).name = yX19_unlock.name) : ∀ (a0 : Nat) (x1 : Int32) (x2 : Int32) (s0 : AS), OK Γ 70 [(0, .ref a0), (1, .int x1), (2, .int x2)] [] (fX19_unlock_70  a0 x1 x2 s0) s0 := by
  intro a0 x1 x2 s0
  unfold fX19_unlock_70
  refine ok_aload_n C 0 dX19_unlock_70 rfl ?_
  refine ok_getR C frX19_54_13 dX19_unlock_71 (fun q1 => ?_)
  refine ok_iload_n C 1 dX19_unlock_74 rfl ?_
  refine ok_iconst C (v := (-1)) dX19_unlock_75 (by decide) ?_
  refine ok_iast C dX19_unlock_76 (fun s2 _ => ?_)
  refine ok_aload_n C 0 dX19_unlock_77 rfl ?_
  refine ok_getR C frX19_57_13 dX19_unlock_78 (fun q3 => ?_)
  refine ok_iload_n C 1 dX19_unlock_81 rfl ?_
  refine ok_iconst C (v := 0) dX19_unlock_82 (by decide) ?_
  refine ok_iast C dX19_unlock_83 (fun s4 _ => ?_)
  refine ok_iload_n C 2 dX19_unlock_84 rfl ?_
  exact ok_ireturn C dX19_unlock_85
set_option maxHeartbeats 4000000 in
theorem oX19_unlock_37 {Γ : CX} (C : OKC Γ cX19_unlock RX19 (some (.int))) (T : ∀ z ∈ (cx_c Γ).exceptionTable.toList, False) (hn : cx_nL Γ = 4) (hR : cx_fr Γ = 1 ∧ cx_lo Γ = 60) (hin : (cx_meth Γ).name = yX19_unlock.name) : ∀ (a0 : Nat) (x1 : Int32) (x2 : Int32) (s0 : AS), OK Γ 37 [(0, .ref a0), (1, .int x1), (2, .int x2)] [] (fX19_unlock_37  a0 x1 x2 s0) s0 := by
  intro a0 x1 x2 s0
  unfold fX19_unlock_37
  refine ok_aload_n C 0 dX19_unlock_37 rfl ?_
  refine ok_getR C frX19_51_13 dX19_unlock_38 (fun q1 => ?_)
  refine ok_iload_n C 1 dX19_unlock_41 rfl ?_
  refine ok_iconst C (v := 0) dX19_unlock_42 (by decide) ?_
  refine ok_iast C dX19_unlock_43 (fun s2 _ => ?_)
  refine ok_aload_n C 0 dX19_unlock_44 rfl ?_
  refine ok_getR C frX19_60_13 dX19_unlock_45 (fun q3 => ?_)
  refine ok_iload_n C 1 dX19_unlock_48 rfl ?_
  refine ok_iconst C (v := 0) dX19_unlock_49 (by decide) ?_
  refine ok_iast C dX19_unlock_50 (fun s4 _ => ?_)
  refine ok_aload_n C 0 dX19_unlock_51 rfl ?_
  refine ok_getR C frX19_54_13 dX19_unlock_52 (fun q5 => ?_)
  refine ok_iload_n C 1 dX19_unlock_55 rfl ?_
  refine ok_iald C dX19_unlock_56 (fun v6 => ?_)
  refine ok_if_lt C 70 dX19_unlock_57 (by decide) ?_ ?_
  · exact oX19_unlock_70 C T hn hR hin a0 x1 x2 s4
  · refine ok_aload_n C 0 dX19_unlock_60 rfl ?_
    refine ok_dup C dX19_unlock_61 rfl ?_
    refine ok_getI C frX19_69_13 dX19_unlock_62 (fun v7 => ?_)
    refine ok_iconst C (v := 1) dX19_unlock_65 (by decide) ?_
    refine ok_iadd C dX19_unlock_66 ?_
    refine ok_putI C flX19_69_13 dX19_unlock_67 (fun s8 _ => ?_)
    exact oX19_unlock_70 C T hn hR hin a0 x1 x2 s8
set_option maxHeartbeats 4000000 in
theorem oX19_unlock_9 {Γ : CX} (C : OKC Γ cX19_unlock RX19 (some (.int))) (T : ∀ z ∈ (cx_c Γ).exceptionTable.toList, False) (hn : cx_nL Γ = 4) (hR : cx_fr Γ = 1 ∧ cx_lo Γ = 60) (hin : (cx_meth Γ).name = yX19_unlock.name) : ∀ (n : Nat) (a0 : Nat) (x1 : Int32) (x2 : Int32) (x3 : Int32) (s0 : AS), OK Γ 9 [(0, .ref a0), (1, .int x1), (2, .int x2), (3, .int x3)] [] (fX19_unlock_9 n a0 x1 x2 x3 s0) s0 := by
  intro n
  induction n with
  | zero => intro _ _ _ _ s0; exact OK.none
  | succ n ih =>
    intro a0 x1 x2 x3 s0
    rw [fX19_unlock_9]
    refine ok_iload_n C 3 dX19_unlock_9 rfl ?_
    refine ok_iload_n C 2 dX19_unlock_10 rfl ?_
    refine ok_icmp_ge C 37 dX19_unlock_11 (by decide) ?_ ?_
    · refine OK.sub (lv' := [(0, .ref a0), (1, .int x1), (2, .int x2)]) [0, 1, 2] rfl ?_
      exact oX19_unlock_37 C T hn hR hin a0 x1 x2 s0
    · refine ok_aload_n C 0 dX19_unlock_14 rfl ?_
      refine ok_getR C frX19_27_13 dX19_unlock_15 (fun q1 => ?_)
      refine ok_aload_n C 0 dX19_unlock_18 rfl ?_
      refine ok_getR C frX19_45_13 dX19_unlock_19 (fun q2 => ?_)
      refine ok_iload_n C 1 dX19_unlock_22 rfl ?_
      refine ok_aaldI C dX19_unlock_23 (fun q3 => ?_)
      refine ok_iload_n C 3 dX19_unlock_24 rfl ?_
      refine ok_iald C dX19_unlock_25 (fun v4 => ?_)
      refine ok_dup2 C dX19_unlock_26 rfl rfl ?_
      refine ok_iald C dX19_unlock_27 (fun v5 => ?_)
      refine ok_iconst C (v := 1) dX19_unlock_28 (by decide) ?_
      refine ok_iadd C dX19_unlock_29 ?_
      refine ok_iast C dX19_unlock_30 (fun s6 _ => ?_)
      refine ok_iincL C 3 (c := 1) (fun v7 => [(3, .int v7), (0, .ref a0), (1, .int x1), (2, .int x2)]) dX19_unlock_31 rfl rfl (by rw [hn]; decide) (fun _ => rfl) (fun v7 => ?_)
      refine ok_goto C 9 dX19_unlock_34 (by decide) ?_
      refine OK.sub (lv' := [(0, .ref a0), (1, .int x1), (2, .int x2), (3, .int v7)]) [1, 2, 3, 0] rfl ?_
      exact ih a0 x1 x2 v7 s6
set_option maxHeartbeats 4000000 in
theorem oX19_unlock {Γ : CX} (C : OKC Γ cX19_unlock RX19 (some (.int))) (T : ∀ z ∈ (cx_c Γ).exceptionTable.toList, False) (hn : cx_nL Γ = 4) (hR : cx_fr Γ = 1 ∧ cx_lo Γ = 60) (hin : (cx_meth Γ).name = yX19_unlock.name) : ∀ (a0 : Nat) (x1 : Int32) (s0 : AS), OK Γ 0 [(0, .ref a0), (1, .int x1)] [] (fX19_unlock a0 x1 s0) s0 := by
  intro a0 x1 s0
  unfold fX19_unlock
  refine ok_aload_n C 0 dX19_unlock_0 rfl ?_
  refine ok_getR C frX19_51_13 dX19_unlock_1 (fun q1 => ?_)
  refine ok_iload_n C 1 dX19_unlock_4 rfl ?_
  refine ok_iald C dX19_unlock_5 (fun v2 => ?_)
  refine ok_istore_n C (i := 2) [(2, .int v2), (0, .ref a0), (1, .int x1)] dX19_unlock_6 rfl (by rw [hn]; decide) rfl ?_
  refine ok_iconst C (v := 0) dX19_unlock_7 (by decide) ?_
  refine ok_istore_n C (i := 3) [(3, .int 0), (2, .int v2), (0, .ref a0), (1, .int x1)] dX19_unlock_8 rfl (by rw [hn]; decide) rfl ?_
  refine OK.sub (lv' := [(0, .ref a0), (1, .int x1), (2, .int v2), (3, .int 0)]) [2, 3, 1, 0] rfl ?_
  exact oX19_unlock_9 C T hn hR hin FU a0 x1 v2 0 s0
theorem ctX19_unlock {l : Launch} (hl : l.stackTraces = false) {D : va_G} {dA : Nat → ClassId} {B0 : Nat} (a0 : Nat) (x1 : Int32) : Ct l D dA B0 yX19_unlock (.code yX19_unlock cX19_unlock 4 (some (.int)) :: ax_ALL) 1 60 [.ref a0, .int x1] (fX19_unlock a0 x1) :=
  Ct.of hl (by decide +kernel) (Nat.le_of_ble_eq_true rfl) fun Γ C _ _ _ _ e5 e6 e7 T hin => oX19_unlock C T e5 ⟨e6, e7⟩ hin a0 x1 _
/-! ChaseLockerLaw$World.falls()I -/
def fX19_falls_85 (r4 : Nat → Int32 → Int32 → AS → Option AR) (a0 : Nat) (x1 : Int32) (x2 : Int32) (s0 : AS) : Option AR :=
  lt (x2 + 1) (fun v1 =>
  r4 a0 x1 v1 s0)
def fX19_falls_4  : Nat → Nat → Int32 → Int32 → AS → Option AR
  | 0, _, _, _, _ => none
  | n + 1, a0, x1, x2, s0 =>
    gR s0 a0 13 1 (fun q1 =>
    aI s0 q1 100 1 (fun v2 =>
    if v2 ≤ x2 then (
      some (.inl (some (.int x1)), s0))
    else (
      gR s0 a0 13 9 (fun q3 =>
      aI s0 q3 100 x2 (fun v4 =>
      if v4 = 0 then (
        fX19_falls_85 (fX19_falls_4 n) a0 x1 x2 s0)
      else (
        cV s0 a0 13 (fX19_loose a0 x2 s0) (qI (fun v5 s6 =>
        gR s6 a0 13 1 (fun q7 =>
        aI s6 q7 100 6 (fun v8 =>
        if v8 < v5 then (
          lt (x1 ||| (1 <<< (x2 &&& 31))) (fun v9 =>
          gR s6 a0 13 5 (fun q10 =>
          aI s6 q10 100 3 (fun v11 =>
          gR s6 a0 13 9 (fun q12 =>
          aI s6 q12 100 x2 (fun v13 =>
          uI s6 q10 3 (v11 + v13) (fun s14 =>
          gR s14 a0 13 5 (fun q15 =>
          aI s14 q15 100 4 (fun v16 =>
          uI s14 q15 4 (v16 + 1) (fun s17 =>
          gR s17 a0 13 9 (fun q18 =>
          uI s17 q18 x2 0 (fun s19 =>
          cV s19 a0 13 (fX19_unlock a0 x2 s19) (qI (fun v20 s21 =>
          fX19_falls_85 (fX19_falls_4 n) a0 v9 x2 s21))))))))))))))
        else (
          fX19_falls_85 (fX19_falls_4 n) a0 x1 x2 s6)))))))))))
def fX19_falls (a0 : Nat) (s0 : AS) : Option AR :=
  fX19_falls_4 FU a0 0 0 s0
set_option maxHeartbeats 4000000 in
theorem oX19_falls_85 {Γ : CX} (C : OKC Γ cX19_falls RX19 (some (.int))) (T : ∀ z ∈ (cx_c Γ).exceptionTable.toList, False) (hn : cx_nL Γ = 4) (hR : cx_fr Γ = 5 ∧ cx_lo Γ = 148) (hin : (cx_meth Γ).name = yX19_falls.name) {r4 : Nat → Int32 → Int32 → AS → Option AR} (h4 : ∀ (a0 : Nat) (x1 : Int32) (x2 : Int32) (s0 : AS), OK Γ 4 [(0, .ref a0), (1, .int x1), (2, .int x2)] [] (r4 a0 x1 x2 s0) s0) : ∀ (a0 : Nat) (x1 : Int32) (x2 : Int32) (s0 : AS), OK Γ 85 [(0, .ref a0), (1, .int x1), (2, .int x2)] [] (fX19_falls_85 r4 a0 x1 x2 s0) s0 := by
  intro a0 x1 x2 s0
  unfold fX19_falls_85
  refine ok_iincL C 2 (c := 1) (fun v1 => [(2, .int v1), (0, .ref a0), (1, .int x1)]) dX19_falls_85 rfl rfl (by rw [hn]; decide) (fun _ => rfl) (fun v1 => ?_)
  refine ok_goto C 4 dX19_falls_88 (by decide) ?_
  refine OK.sub (lv' := [(0, .ref a0), (1, .int x1), (2, .int v1)]) [1, 2, 0] rfl ?_
  exact h4 a0 x1 v1 s0
set_option maxHeartbeats 4000000 in
theorem oX19_falls_4 {Γ : CX} (C : OKC Γ cX19_falls RX19 (some (.int))) (T : ∀ z ∈ (cx_c Γ).exceptionTable.toList, False) (hn : cx_nL Γ = 4) (hR : cx_fr Γ = 5 ∧ cx_lo Γ = 148) (hin : (cx_meth Γ).name = yX19_falls.name) : ∀ (n : Nat) (a0 : Nat) (x1 : Int32) (x2 : Int32) (s0 : AS), OK Γ 4 [(0, .ref a0), (1, .int x1), (2, .int x2)] [] (fX19_falls_4 n a0 x1 x2 s0) s0 := by
  intro n
  induction n with
  | zero => intro _ _ _ s0; exact OK.none
  | succ n ih =>
    intro a0 x1 x2 s0
    rw [fX19_falls_4]
    refine ok_iload_n C 2 dX19_falls_4 rfl ?_
    refine ok_aload_n C 0 dX19_falls_5 rfl ?_
    refine ok_getR C frX19_20_13 dX19_falls_6 (fun q1 => ?_)
    refine ok_iconst C (v := 1) dX19_falls_9 (by decide) ?_
    refine ok_iald C dX19_falls_10 (fun v2 => ?_)
    refine ok_icmp_ge C 91 dX19_falls_11 (by decide) ?_ ?_
    · refine ok_iload_n C 1 dX19_falls_91 rfl ?_
      exact ok_ireturn C dX19_falls_92
    · refine ok_aload_n C 0 dX19_falls_14 rfl ?_
      refine ok_getR C frX19_48_13 dX19_falls_15 (fun q3 => ?_)
      refine ok_iload_n C 2 dX19_falls_18 rfl ?_
      refine ok_iald C dX19_falls_19 (fun v4 => ?_)
      refine ok_if_eq C 85 dX19_falls_20 (by decide) ?_ ?_
      · exact oX19_falls_85 C T hn hR hin ih a0 x1 x2 s0
      · refine ok_aload_n C 0 dX19_falls_23 rfl ?_
        refine ok_iload_n C 2 dX19_falls_24 rfl ?_
        refine ok_callV C T [.int x2] (F := fX19_loose a0 x2) (ctX19_loose (C.2.2.2.2.2.2.2.2.1) a0 x2) vlX19_117 viX19_loose rfl rfl (by decide) rfl (by rw [hR.1, hR.2]; decide) (Nat.le_of_ble_eq_true rfl) dX19_falls_25 (ok_qI fun v5 s6 => ?_)
        refine ok_aload_n C 0 dX19_falls_28 rfl ?_
        refine ok_getR C frX19_20_13 dX19_falls_29 (fun q7 => ?_)
        refine ok_bipush C (v := 6) dX19_falls_32 (by decide) ?_
        refine ok_iald C dX19_falls_34 (fun v8 => ?_)
        refine ok_icmp_gt C 41 dX19_falls_35 (by decide) ?_ ?_
        · refine ok_iload_n C 1 dX19_falls_41 rfl ?_
          refine ok_iconst C (v := 1) dX19_falls_42 (by decide) ?_
          refine ok_iload_n C 2 dX19_falls_43 rfl ?_
          refine ok_ishl C dX19_falls_44 ?_
          refine ok_ior C dX19_falls_45 ?_
          refine ok_lt (fun v9 => ?_)
          refine ok_istore_n C (i := 1) [(1, .int v9), (0, .ref a0), (2, .int x2)] dX19_falls_46 rfl (by rw [hn]; decide) rfl ?_
          refine ok_aload_n C 1 dX19_falls_47 rfl ?_
          refine ok_getR C frX19_33_13 dX19_falls_48 (fun q10 => ?_)
          refine ok_iconst C (v := 3) dX19_falls_51 (by decide) ?_
          refine ok_dup2 C dX19_falls_52 rfl rfl ?_
          refine ok_iald C dX19_falls_53 (fun v11 => ?_)
          refine ok_aload_n C 1 dX19_falls_54 rfl ?_
          refine ok_getR C frX19_48_13 dX19_falls_55 (fun q12 => ?_)
          refine ok_iload_n C 2 dX19_falls_58 rfl ?_
          refine ok_iald C dX19_falls_59 (fun v13 => ?_)
          refine ok_iadd C dX19_falls_60 ?_
          refine ok_iast C dX19_falls_61 (fun s14 _ => ?_)
          refine ok_aload_n C 1 dX19_falls_62 rfl ?_
          refine ok_getR C frX19_33_13 dX19_falls_63 (fun q15 => ?_)
          refine ok_iconst C (v := 4) dX19_falls_66 (by decide) ?_
          refine ok_dup2 C dX19_falls_67 rfl rfl ?_
          refine ok_iald C dX19_falls_68 (fun v16 => ?_)
          refine ok_iconst C (v := 1) dX19_falls_69 (by decide) ?_
          refine ok_iadd C dX19_falls_70 ?_
          refine ok_iast C dX19_falls_71 (fun s17 _ => ?_)
          refine ok_aload_n C 1 dX19_falls_72 rfl ?_
          refine ok_getR C frX19_48_13 dX19_falls_73 (fun q18 => ?_)
          refine ok_iload_n C 2 dX19_falls_76 rfl ?_
          refine ok_iconst C (v := 0) dX19_falls_77 (by decide) ?_
          refine ok_iast C dX19_falls_78 (fun s19 _ => ?_)
          refine ok_aload_n C 1 dX19_falls_79 rfl ?_
          refine ok_iload_n C 2 dX19_falls_80 rfl ?_
          refine ok_callV C T [.int x2] (F := fX19_unlock a0 x2) (ctX19_unlock (C.2.2.2.2.2.2.2.2.1) a0 x2) vlX19_120 viX19_unlock rfl rfl (by decide) rfl (by rw [hR.1, hR.2]; decide) (Nat.le_of_ble_eq_true rfl) dX19_falls_81 (ok_qI fun v20 s21 => ?_)
          refine ok_istore_n C (i := 3) [(3, .int v20), (1, .int v9), (0, .ref a0), (2, .int x2)] dX19_falls_84 rfl (by rw [hn]; decide) rfl ?_
          refine OK.sub (lv' := [(0, .ref a0), (1, .int v9), (2, .int x2)]) [2, 1, 3] rfl ?_
          exact oX19_falls_85 C T hn hR hin ih a0 v9 x2 s21
        · refine ok_goto C 85 dX19_falls_38 (by decide) ?_
          exact oX19_falls_85 C T hn hR hin ih a0 x1 x2 s6
set_option maxHeartbeats 4000000 in
theorem oX19_falls {Γ : CX} (C : OKC Γ cX19_falls RX19 (some (.int))) (T : ∀ z ∈ (cx_c Γ).exceptionTable.toList, False) (hn : cx_nL Γ = 4) (hR : cx_fr Γ = 5 ∧ cx_lo Γ = 148) (hin : (cx_meth Γ).name = yX19_falls.name) : ∀ (a0 : Nat) (s0 : AS), OK Γ 0 [(0, .ref a0)] [] (fX19_falls a0 s0) s0 := by
  intro a0 s0
  unfold fX19_falls
  refine ok_iconst C (v := 0) dX19_falls_0 (by decide) ?_
  refine ok_istore_n C (i := 1) [(1, .int 0), (0, .ref a0)] dX19_falls_1 rfl (by rw [hn]; decide) rfl ?_
  refine ok_iconst C (v := 0) dX19_falls_2 (by decide) ?_
  refine ok_istore_n C (i := 2) [(2, .int 0), (1, .int 0), (0, .ref a0)] dX19_falls_3 rfl (by rw [hn]; decide) rfl ?_
  refine OK.sub (lv' := [(0, .ref a0), (1, .int 0), (2, .int 0)]) [2, 1, 0] rfl ?_
  exact oX19_falls_4 C T hn hR hin FU a0 0 0 s0
theorem ctX19_falls {l : Launch} (hl : l.stackTraces = false) {D : va_G} {dA : Nat → ClassId} {B0 : Nat} (a0 : Nat) : Ct l D dA B0 yX19_falls (.code yX19_falls cX19_falls 4 (some (.int)) :: ax_ALL) 5 148 [.ref a0] (fX19_falls a0) :=
  Ct.of hl (by decide +kernel) (Nat.le_of_ble_eq_true rfl) fun Γ C _ _ _ _ e5 e6 e7 T hin => oX19_falls C T e5 ⟨e6, e7⟩ hin a0 _
/-! ChaseLockerLaw$World.print()I -/
def fX19_print_137  (x1 : Int32) (t0 : Nat) (t1 : Int32) (t2 : Int32) (t3 : Int32) (s0 : AS) : Option AR :=
  uI s0 t0 t1 (t2 + t3) (fun s1 =>
  some (.inl (some (.int x1)), s1))
def fX19_print_111  (a0 : Nat) (x1 : Int32) (x2 : Int32) (s0 : AS) : Option AR :=
  gR s0 a0 13 5 (fun q1 =>
  aI s0 q1 100 0 (fun v2 =>
  uI s0 q1 0 (v2 + 1) (fun s3 =>
  gR s3 a0 13 5 (fun q4 =>
  aI s3 q4 100 1 (fun v5 =>
  if x2 = 0 then (
    fX19_print_137 x1 q4 1 v5 0 s3)
  else (
    fX19_print_137 x1 q4 1 v5 1 s3))))))
def fX19_print_104 (r57 : Nat → Int32 → Int32 → Int32 → AS → Option AR) (a0 : Nat) (x1 : Int32) (x3 : Int32) (t0 : Int32) (s0 : AS) : Option AR :=
  lt (x3 + 1) (fun v1 =>
  r57 a0 x1 t0 v1 s0)
def fX19_print_103 (r57 : Nat → Int32 → Int32 → Int32 → AS → Option AR) (a0 : Nat) (x1 : Int32) (x3 : Int32) (s0 : AS) : Option AR :=
  fX19_print_104 r57 a0 x1 x3 0 s0
def fX19_print_99 (r57 : Nat → Int32 → Int32 → Int32 → AS → Option AR) (a0 : Nat) (x1 : Int32) (x3 : Int32) (s0 : AS) : Option AR :=
  fX19_print_104 r57 a0 x1 x3 1 s0
def fX19_print_57  : Nat → Nat → Int32 → Int32 → Int32 → AS → Option AR
  | 0, _, _, _, _, _ => none
  | n + 1, a0, x1, x2, x3, s0 =>
    gR s0 a0 13 1 (fun q1 =>
    aI s0 q1 100 1 (fun v2 =>
    if v2 ≤ x3 then (
      fX19_print_111 a0 x1 x2 s0)
    else (
      if x2 = 0 then (
        fX19_print_103 (fX19_print_57 n) a0 x1 x3 s0)
      else (
        gR s0 a0 13 9 (fun q3 =>
        aI s0 q3 100 x3 (fun v4 =>
        if v4 = 0 then (
          fX19_print_99 (fX19_print_57 n) a0 x1 x3 s0)
        else (
          cV s0 a0 13 (fX19_gap a0 x3 s0) (qI (fun v5 s6 =>
          if v5 = 0 then (
            gR s6 a0 13 13 (fun q7 =>
            aI s6 q7 100 x3 (fun v8 =>
            if (10 : Int32) ≤ v8 then (
              fX19_print_103 (fX19_print_57 n) a0 x1 x3 s6)
            else (
              fX19_print_99 (fX19_print_57 n) a0 x1 x3 s6))))
          else (
            fX19_print_103 (fX19_print_57 n) a0 x1 x3 s6))))))))))
def fX19_print_54  (a0 : Nat) (x1 : Int32) (t0 : Int32) (s0 : AS) : Option AR :=
  fX19_print_57 FU a0 x1 t0 0 s0
def fX19_print_40  (a0 : Nat) (s0 : AS) : Option AR :=
  cV s0 a0 13 (fX19_falls a0 s0) (qI (fun v1 s2 =>
  if v1 = 0 then (
    fX19_print_54 a0 v1 1 s2)
  else (
    fX19_print_54 a0 v1 0 s2)))
def fX19_print_2  : Nat → Nat → Int32 → AS → Option AR
  | 0, _, _, _ => none
  | n + 1, a0, x1, s0 =>
    gR s0 a0 13 1 (fun q1 =>
    aI s0 q1 100 1 (fun v2 =>
    if v2 ≤ x1 then (
      fX19_print_40 a0 s0)
    else (
      gR s0 a0 13 13 (fun q3 =>
      aI s0 q3 100 x1 (fun v4 =>
      gR s0 a0 13 1 (fun q5 =>
      aI s0 q5 100 4 (fun v6 =>
      gR s0 a0 13 9 (fun q7 =>
      aI s0 q7 100 x1 (fun v8 =>
      uI s0 q3 x1 (v4 + (v6 * v8)) (fun s9 =>
      lt (x1 + 1) (fun v10 =>
      fX19_print_2 n a0 v10 s9)))))))))))
def fX19_print (a0 : Nat) (s0 : AS) : Option AR :=
  fX19_print_2 FU a0 0 s0
set_option maxHeartbeats 4000000 in
theorem oX19_print_137 {Γ : CX} (C : OKC Γ cX19_print RX19 (some (.int))) (T : ∀ z ∈ (cx_c Γ).exceptionTable.toList, False) (hn : cx_nL Γ = 4) (hR : cx_fr Γ = 6 ∧ cx_lo Γ = 171) (hin : (cx_meth Γ).name = yX19_print.name) : ∀ (x1 : Int32) (t0 : Nat) (t1 : Int32) (t2 : Int32) (t3 : Int32) (s0 : AS), OK Γ 137 [(1, .int x1)] [.int t3, .int t2, .int t1, .ref t0] (fX19_print_137  x1 t0 t1 t2 t3 s0) s0 := by
  intro x1 t0 t1 t2 t3 s0
  unfold fX19_print_137
  refine ok_iadd C dX19_print_137 ?_
  refine ok_iast C dX19_print_138 (fun s1 _ => ?_)
  refine ok_iload_n C 0 dX19_print_139 rfl ?_
  exact ok_ireturn C dX19_print_140
set_option maxHeartbeats 4000000 in
theorem oX19_print_111 {Γ : CX} (C : OKC Γ cX19_print RX19 (some (.int))) (T : ∀ z ∈ (cx_c Γ).exceptionTable.toList, False) (hn : cx_nL Γ = 4) (hR : cx_fr Γ = 6 ∧ cx_lo Γ = 171) (hin : (cx_meth Γ).name = yX19_print.name) : ∀ (a0 : Nat) (x1 : Int32) (x2 : Int32) (s0 : AS), OK Γ 111 [(0, .ref a0), (1, .int x1), (2, .int x2)] [] (fX19_print_111  a0 x1 x2 s0) s0 := by
  intro a0 x1 x2 s0
  unfold fX19_print_111
  refine ok_aload_n C 0 dX19_print_111 rfl ?_
  refine ok_getR C frX19_33_13 dX19_print_112 (fun q1 => ?_)
  refine ok_iconst C (v := 0) dX19_print_115 (by decide) ?_
  refine ok_dup2 C dX19_print_116 rfl rfl ?_
  refine ok_iald C dX19_print_117 (fun v2 => ?_)
  refine ok_iconst C (v := 1) dX19_print_118 (by decide) ?_
  refine ok_iadd C dX19_print_119 ?_
  refine ok_iast C dX19_print_120 (fun s3 _ => ?_)
  refine ok_aload_n C 0 dX19_print_121 rfl ?_
  refine ok_getR C frX19_33_13 dX19_print_122 (fun q4 => ?_)
  refine ok_iconst C (v := 1) dX19_print_125 (by decide) ?_
  refine ok_dup2 C dX19_print_126 rfl rfl ?_
  refine ok_iald C dX19_print_127 (fun v5 => ?_)
  refine ok_iload_n C 2 dX19_print_128 rfl ?_
  refine ok_if_eq C 136 dX19_print_129 (by decide) ?_ ?_
  · refine ok_iconst C (v := 0) dX19_print_136 (by decide) ?_
    refine OK.sub (lv' := [(1, .int x1)]) [1] rfl ?_
    exact oX19_print_137 C T hn hR hin x1 q4 1 v5 0 s3
  · refine ok_iconst C (v := 1) dX19_print_132 (by decide) ?_
    refine ok_goto C 137 dX19_print_133 (by decide) ?_
    refine OK.sub (lv' := [(1, .int x1)]) [1] rfl ?_
    exact oX19_print_137 C T hn hR hin x1 q4 1 v5 1 s3
set_option maxHeartbeats 4000000 in
theorem oX19_print_104 {Γ : CX} (C : OKC Γ cX19_print RX19 (some (.int))) (T : ∀ z ∈ (cx_c Γ).exceptionTable.toList, False) (hn : cx_nL Γ = 4) (hR : cx_fr Γ = 6 ∧ cx_lo Γ = 171) (hin : (cx_meth Γ).name = yX19_print.name) {r57 : Nat → Int32 → Int32 → Int32 → AS → Option AR} (h57 : ∀ (a0 : Nat) (x1 : Int32) (x2 : Int32) (x3 : Int32) (s0 : AS), OK Γ 57 [(0, .ref a0), (1, .int x1), (2, .int x2), (3, .int x3)] [] (r57 a0 x1 x2 x3 s0) s0) : ∀ (a0 : Nat) (x1 : Int32) (x3 : Int32) (t0 : Int32) (s0 : AS), OK Γ 104 [(0, .ref a0), (1, .int x1), (3, .int x3)] [.int t0] (fX19_print_104 r57 a0 x1 x3 t0 s0) s0 := by
  intro a0 x1 x3 t0 s0
  unfold fX19_print_104
  refine ok_istore_n C (i := 2) [(2, .int t0), (0, .ref a0), (1, .int x1), (3, .int x3)] dX19_print_104 rfl (by rw [hn]; decide) rfl ?_
  refine ok_iincL C 3 (c := 1) (fun v1 => [(3, .int v1), (2, .int t0), (0, .ref a0), (1, .int x1)]) dX19_print_105 rfl rfl (by rw [hn]; decide) (fun _ => rfl) (fun v1 => ?_)
  refine ok_goto C 57 dX19_print_108 (by decide) ?_
  refine OK.sub (lv' := [(0, .ref a0), (1, .int x1), (2, .int t0), (3, .int v1)]) [2, 3, 1, 0] rfl ?_
  exact h57 a0 x1 t0 v1 s0
set_option maxHeartbeats 4000000 in
theorem oX19_print_103 {Γ : CX} (C : OKC Γ cX19_print RX19 (some (.int))) (T : ∀ z ∈ (cx_c Γ).exceptionTable.toList, False) (hn : cx_nL Γ = 4) (hR : cx_fr Γ = 6 ∧ cx_lo Γ = 171) (hin : (cx_meth Γ).name = yX19_print.name) {r57 : Nat → Int32 → Int32 → Int32 → AS → Option AR} (h57 : ∀ (a0 : Nat) (x1 : Int32) (x2 : Int32) (x3 : Int32) (s0 : AS), OK Γ 57 [(0, .ref a0), (1, .int x1), (2, .int x2), (3, .int x3)] [] (r57 a0 x1 x2 x3 s0) s0) : ∀ (a0 : Nat) (x1 : Int32) (x3 : Int32) (s0 : AS), OK Γ 103 [(0, .ref a0), (1, .int x1), (3, .int x3)] [] (fX19_print_103 r57 a0 x1 x3 s0) s0 := by
  intro a0 x1 x3 s0
  unfold fX19_print_103
  refine ok_iconst C (v := 0) dX19_print_103 (by decide) ?_
  exact oX19_print_104 C T hn hR hin h57 a0 x1 x3 0 s0
set_option maxHeartbeats 4000000 in
theorem oX19_print_99 {Γ : CX} (C : OKC Γ cX19_print RX19 (some (.int))) (T : ∀ z ∈ (cx_c Γ).exceptionTable.toList, False) (hn : cx_nL Γ = 4) (hR : cx_fr Γ = 6 ∧ cx_lo Γ = 171) (hin : (cx_meth Γ).name = yX19_print.name) {r57 : Nat → Int32 → Int32 → Int32 → AS → Option AR} (h57 : ∀ (a0 : Nat) (x1 : Int32) (x2 : Int32) (x3 : Int32) (s0 : AS), OK Γ 57 [(0, .ref a0), (1, .int x1), (2, .int x2), (3, .int x3)] [] (r57 a0 x1 x2 x3 s0) s0) : ∀ (a0 : Nat) (x1 : Int32) (x3 : Int32) (s0 : AS), OK Γ 99 [(0, .ref a0), (1, .int x1), (3, .int x3)] [] (fX19_print_99 r57 a0 x1 x3 s0) s0 := by
  intro a0 x1 x3 s0
  unfold fX19_print_99
  refine ok_iconst C (v := 1) dX19_print_99 (by decide) ?_
  refine ok_goto C 104 dX19_print_100 (by decide) ?_
  exact oX19_print_104 C T hn hR hin h57 a0 x1 x3 1 s0
set_option maxHeartbeats 4000000 in
theorem oX19_print_57 {Γ : CX} (C : OKC Γ cX19_print RX19 (some (.int))) (T : ∀ z ∈ (cx_c Γ).exceptionTable.toList, False) (hn : cx_nL Γ = 4) (hR : cx_fr Γ = 6 ∧ cx_lo Γ = 171) (hin : (cx_meth Γ).name = yX19_print.name) : ∀ (n : Nat) (a0 : Nat) (x1 : Int32) (x2 : Int32) (x3 : Int32) (s0 : AS), OK Γ 57 [(0, .ref a0), (1, .int x1), (2, .int x2), (3, .int x3)] [] (fX19_print_57 n a0 x1 x2 x3 s0) s0 := by
  intro n
  induction n with
  | zero => intro _ _ _ _ s0; exact OK.none
  | succ n ih =>
    intro a0 x1 x2 x3 s0
    rw [fX19_print_57]
    refine ok_iload_n C 3 dX19_print_57 rfl ?_
    refine ok_aload_n C 0 dX19_print_58 rfl ?_
    refine ok_getR C frX19_20_13 dX19_print_59 (fun q1 => ?_)
    refine ok_iconst C (v := 1) dX19_print_62 (by decide) ?_
    refine ok_iald C dX19_print_63 (fun v2 => ?_)
    refine ok_icmp_ge C 111 dX19_print_64 (by decide) ?_ ?_
    · refine OK.sub (lv' := [(0, .ref a0), (1, .int x1), (2, .int x2)]) [0, 1, 2] rfl ?_
      exact oX19_print_111 C T hn hR hin a0 x1 x2 s0
    · refine ok_iload_n C 2 dX19_print_67 rfl ?_
      refine ok_if_eq C 103 dX19_print_68 (by decide) ?_ ?_
      · refine OK.sub (lv' := [(0, .ref a0), (1, .int x1), (3, .int x3)]) [0, 1, 3] rfl ?_
        exact oX19_print_103 C T hn hR hin ih a0 x1 x3 s0
      · refine ok_aload_n C 0 dX19_print_71 rfl ?_
        refine ok_getR C frX19_48_13 dX19_print_72 (fun q3 => ?_)
        refine ok_iload_n C 3 dX19_print_75 rfl ?_
        refine ok_iald C dX19_print_76 (fun v4 => ?_)
        refine ok_if_eq C 99 dX19_print_77 (by decide) ?_ ?_
        · refine OK.sub (lv' := [(0, .ref a0), (1, .int x1), (3, .int x3)]) [0, 1, 3] rfl ?_
          exact oX19_print_99 C T hn hR hin ih a0 x1 x3 s0
        · refine ok_aload_n C 0 dX19_print_80 rfl ?_
          refine ok_iload_n C 3 dX19_print_81 rfl ?_
          refine ok_callV C T [.int x3] (F := fX19_gap a0 x3) (ctX19_gap (C.2.2.2.2.2.2.2.2.1) a0 x3) vlX19_98 viX19_gap rfl rfl (by decide) rfl (by rw [hR.1, hR.2]; decide) (Nat.le_of_ble_eq_true rfl) dX19_print_82 (ok_qI fun v5 s6 => ?_)
          refine ok_if_ne C 103 dX19_print_85 (by decide) ?_ ?_
          · refine OK.sub (lv' := [(0, .ref a0), (1, .int x1), (3, .int x3)]) [0, 1, 3] rfl ?_
            exact oX19_print_103 C T hn hR hin ih a0 x1 x3 s6
          · refine ok_aload_n C 0 dX19_print_88 rfl ?_
            refine ok_getR C frX19_60_13 dX19_print_89 (fun q7 => ?_)
            refine ok_iload_n C 3 dX19_print_92 rfl ?_
            refine ok_iald C dX19_print_93 (fun v8 => ?_)
            refine ok_bipush C (v := 10) dX19_print_94 (by decide) ?_
            refine ok_icmp_ge C 103 dX19_print_96 (by decide) ?_ ?_
            · refine OK.sub (lv' := [(0, .ref a0), (1, .int x1), (3, .int x3)]) [0, 1, 3] rfl ?_
              exact oX19_print_103 C T hn hR hin ih a0 x1 x3 s6
            · refine OK.sub (lv' := [(0, .ref a0), (1, .int x1), (3, .int x3)]) [0, 1, 3] rfl ?_
              exact oX19_print_99 C T hn hR hin ih a0 x1 x3 s6
set_option maxHeartbeats 4000000 in
theorem oX19_print_54 {Γ : CX} (C : OKC Γ cX19_print RX19 (some (.int))) (T : ∀ z ∈ (cx_c Γ).exceptionTable.toList, False) (hn : cx_nL Γ = 4) (hR : cx_fr Γ = 6 ∧ cx_lo Γ = 171) (hin : (cx_meth Γ).name = yX19_print.name) : ∀ (a0 : Nat) (x1 : Int32) (t0 : Int32) (s0 : AS), OK Γ 54 [(0, .ref a0), (1, .int x1)] [.int t0] (fX19_print_54  a0 x1 t0 s0) s0 := by
  intro a0 x1 t0 s0
  unfold fX19_print_54
  refine ok_istore_n C (i := 2) [(2, .int t0), (0, .ref a0), (1, .int x1)] dX19_print_54 rfl (by rw [hn]; decide) rfl ?_
  refine ok_iconst C (v := 0) dX19_print_55 (by decide) ?_
  refine ok_istore_n C (i := 3) [(3, .int 0), (2, .int t0), (0, .ref a0), (1, .int x1)] dX19_print_56 rfl (by rw [hn]; decide) rfl ?_
  refine OK.sub (lv' := [(0, .ref a0), (1, .int x1), (2, .int t0), (3, .int 0)]) [2, 3, 1, 0] rfl ?_
  exact oX19_print_57 C T hn hR hin FU a0 x1 t0 0 s0
set_option maxHeartbeats 4000000 in
theorem oX19_print_40 {Γ : CX} (C : OKC Γ cX19_print RX19 (some (.int))) (T : ∀ z ∈ (cx_c Γ).exceptionTable.toList, False) (hn : cx_nL Γ = 4) (hR : cx_fr Γ = 6 ∧ cx_lo Γ = 171) (hin : (cx_meth Γ).name = yX19_print.name) : ∀ (a0 : Nat) (s0 : AS), OK Γ 40 [(0, .ref a0)] [] (fX19_print_40  a0 s0) s0 := by
  intro a0 s0
  unfold fX19_print_40
  refine ok_aload_n C 0 dX19_print_40 rfl ?_
  refine ok_callV C T [] (F := fX19_falls a0) (ctX19_falls (C.2.2.2.2.2.2.2.2.1) a0) vlX19_123 viX19_falls rfl rfl (by decide) rfl (by rw [hR.1, hR.2]; decide) (Nat.le_of_ble_eq_true rfl) dX19_print_41 (ok_qI fun v1 s2 => ?_)
  refine ok_istore_n C (i := 1) [(1, .int v1), (0, .ref a0)] dX19_print_44 rfl (by rw [hn]; decide) rfl ?_
  refine ok_iload_n C 0 dX19_print_45 rfl ?_
  refine ok_if_ne C 53 dX19_print_46 (by decide) ?_ ?_
  · refine ok_iconst C (v := 0) dX19_print_53 (by decide) ?_
    refine OK.sub (lv' := [(0, .ref a0), (1, .int v1)]) [1, 0] rfl ?_
    exact oX19_print_54 C T hn hR hin a0 v1 0 s2
  · refine ok_iconst C (v := 1) dX19_print_49 (by decide) ?_
    refine ok_goto C 54 dX19_print_50 (by decide) ?_
    refine OK.sub (lv' := [(0, .ref a0), (1, .int v1)]) [1, 0] rfl ?_
    exact oX19_print_54 C T hn hR hin a0 v1 1 s2
set_option maxHeartbeats 4000000 in
theorem oX19_print_2 {Γ : CX} (C : OKC Γ cX19_print RX19 (some (.int))) (T : ∀ z ∈ (cx_c Γ).exceptionTable.toList, False) (hn : cx_nL Γ = 4) (hR : cx_fr Γ = 6 ∧ cx_lo Γ = 171) (hin : (cx_meth Γ).name = yX19_print.name) : ∀ (n : Nat) (a0 : Nat) (x1 : Int32) (s0 : AS), OK Γ 2 [(0, .ref a0), (1, .int x1)] [] (fX19_print_2 n a0 x1 s0) s0 := by
  intro n
  induction n with
  | zero => intro _ _ s0; exact OK.none
  | succ n ih =>
    intro a0 x1 s0
    rw [fX19_print_2]
    refine ok_iload_n C 1 dX19_print_2 rfl ?_
    refine ok_aload_n C 0 dX19_print_3 rfl ?_
    refine ok_getR C frX19_20_13 dX19_print_4 (fun q1 => ?_)
    refine ok_iconst C (v := 1) dX19_print_7 (by decide) ?_
    refine ok_iald C dX19_print_8 (fun v2 => ?_)
    refine ok_icmp_ge C 40 dX19_print_9 (by decide) ?_ ?_
    · refine OK.sub (lv' := [(0, .ref a0)]) [0] rfl ?_
      exact oX19_print_40 C T hn hR hin a0 s0
    · refine ok_aload_n C 0 dX19_print_12 rfl ?_
      refine ok_getR C frX19_60_13 dX19_print_13 (fun q3 => ?_)
      refine ok_iload_n C 1 dX19_print_16 rfl ?_
      refine ok_dup2 C dX19_print_17 rfl rfl ?_
      refine ok_iald C dX19_print_18 (fun v4 => ?_)
      refine ok_aload_n C 0 dX19_print_19 rfl ?_
      refine ok_getR C frX19_20_13 dX19_print_20 (fun q5 => ?_)
      refine ok_iconst C (v := 4) dX19_print_23 (by decide) ?_
      refine ok_iald C dX19_print_24 (fun v6 => ?_)
      refine ok_aload_n C 0 dX19_print_25 rfl ?_
      refine ok_getR C frX19_48_13 dX19_print_26 (fun q7 => ?_)
      refine ok_iload_n C 1 dX19_print_29 rfl ?_
      refine ok_iald C dX19_print_30 (fun v8 => ?_)
      refine ok_imul C dX19_print_31 ?_
      refine ok_iadd C dX19_print_32 ?_
      refine ok_iast C dX19_print_33 (fun s9 _ => ?_)
      refine ok_iincL C 1 (c := 1) (fun v10 => [(1, .int v10), (0, .ref a0)]) dX19_print_34 rfl rfl (by rw [hn]; decide) (fun _ => rfl) (fun v10 => ?_)
      refine ok_goto C 2 dX19_print_37 (by decide) ?_
      refine OK.sub (lv' := [(0, .ref a0), (1, .int v10)]) [1, 0] rfl ?_
      exact ih a0 v10 s9
set_option maxHeartbeats 4000000 in
theorem oX19_print {Γ : CX} (C : OKC Γ cX19_print RX19 (some (.int))) (T : ∀ z ∈ (cx_c Γ).exceptionTable.toList, False) (hn : cx_nL Γ = 4) (hR : cx_fr Γ = 6 ∧ cx_lo Γ = 171) (hin : (cx_meth Γ).name = yX19_print.name) : ∀ (a0 : Nat) (s0 : AS), OK Γ 0 [(0, .ref a0)] [] (fX19_print a0 s0) s0 := by
  intro a0 s0
  unfold fX19_print
  refine ok_iconst C (v := 0) dX19_print_0 (by decide) ?_
  refine ok_istore_n C (i := 1) [(1, .int 0), (0, .ref a0)] dX19_print_1 rfl (by rw [hn]; decide) rfl ?_
  refine OK.sub (lv' := [(0, .ref a0), (1, .int 0)]) [1, 0] rfl ?_
  exact oX19_print_2 C T hn hR hin FU a0 0 s0
theorem ctX19_print {l : Launch} (hl : l.stackTraces = false) {D : va_G} {dA : Nat → ClassId} {B0 : Nat} (a0 : Nat) : Ct l D dA B0 yX19_print (.code yX19_print cX19_print 4 (some (.int)) :: ax_ALL) 6 171 [.ref a0] (fX19_print a0) :=
  Ct.of hl (by decide +kernel) (Nat.le_of_ble_eq_true rfl) fun Γ C _ _ _ _ e5 e6 e7 T hin => oX19_print C T e5 ⟨e6, e7⟩ hin a0 _
/-! ChaseLockerLaw$World.day()I -/
def fX19_day_39  (a0 : Nat) (s0 : AS) : Option AR :=
  gR s0 a0 13 5 (fun q1 =>
  aI s0 q1 100 2 (fun v2 =>
  uI s0 q1 2 (v2 + 1) (fun s3 =>
  cV s3 a0 13 (fX19_falls a0 s3) (qI (fun v4 s5 =>
  some (.inl (some (.int v4)), s5))))))
def fX19_day_2  : Nat → Nat → Int32 → AS → Option AR
  | 0, _, _, _ => none
  | n + 1, a0, x1, s0 =>
    gR s0 a0 13 1 (fun q1 =>
    aI s0 q1 100 1 (fun v2 =>
    if v2 ≤ x1 then (
      fX19_day_39 a0 s0)
    else (
      gR s0 a0 13 13 (fun q3 =>
      aI s0 q3 100 x1 (fun v4 =>
      gR s0 a0 13 1 (fun q5 =>
      aI s0 q5 100 5 (fun v6 =>
      cV s0 a0 13 (fX19_wood a0 x1 s0) (qI (fun v7 s8 =>
      uI s8 q3 x1 (v4 + (v6 * v7)) (fun s9 =>
      lt (x1 + 1) (fun v10 =>
      fX19_day_2 n a0 v10 s9)))))))))))
def fX19_day (a0 : Nat) (s0 : AS) : Option AR :=
  fX19_day_2 FU a0 0 s0
set_option maxHeartbeats 4000000 in
theorem oX19_day_39 {Γ : CX} (C : OKC Γ cX19_day RX19 (some (.int))) (T : ∀ z ∈ (cx_c Γ).exceptionTable.toList, False) (hn : cx_nL Γ = 2) (hR : cx_fr Γ = 6 ∧ cx_lo Γ = 171) (hin : (cx_meth Γ).name = yX19_day.name) : ∀ (a0 : Nat) (s0 : AS), OK Γ 39 [(0, .ref a0)] [] (fX19_day_39  a0 s0) s0 := by
  intro a0 s0
  unfold fX19_day_39
  refine ok_aload_n C 0 dX19_day_39 rfl ?_
  refine ok_getR C frX19_33_13 dX19_day_40 (fun q1 => ?_)
  refine ok_iconst C (v := 2) dX19_day_43 (by decide) ?_
  refine ok_dup2 C dX19_day_44 rfl rfl ?_
  refine ok_iald C dX19_day_45 (fun v2 => ?_)
  refine ok_iconst C (v := 1) dX19_day_46 (by decide) ?_
  refine ok_iadd C dX19_day_47 ?_
  refine ok_iast C dX19_day_48 (fun s3 _ => ?_)
  refine ok_aload_n C 0 dX19_day_49 rfl ?_
  refine ok_callV C T [] (F := fX19_falls a0) (ctX19_falls (C.2.2.2.2.2.2.2.2.1) a0) vlX19_123 viX19_falls rfl rfl (by decide) rfl (by rw [hR.1, hR.2]; decide) (Nat.le_of_ble_eq_true rfl) dX19_day_50 (ok_qI fun v4 s5 => ?_)
  exact ok_ireturn C dX19_day_53
set_option maxHeartbeats 4000000 in
theorem oX19_day_2 {Γ : CX} (C : OKC Γ cX19_day RX19 (some (.int))) (T : ∀ z ∈ (cx_c Γ).exceptionTable.toList, False) (hn : cx_nL Γ = 2) (hR : cx_fr Γ = 6 ∧ cx_lo Γ = 171) (hin : (cx_meth Γ).name = yX19_day.name) : ∀ (n : Nat) (a0 : Nat) (x1 : Int32) (s0 : AS), OK Γ 2 [(0, .ref a0), (1, .int x1)] [] (fX19_day_2 n a0 x1 s0) s0 := by
  intro n
  induction n with
  | zero => intro _ _ s0; exact OK.none
  | succ n ih =>
    intro a0 x1 s0
    rw [fX19_day_2]
    refine ok_iload_n C 1 dX19_day_2 rfl ?_
    refine ok_aload_n C 0 dX19_day_3 rfl ?_
    refine ok_getR C frX19_20_13 dX19_day_4 (fun q1 => ?_)
    refine ok_iconst C (v := 1) dX19_day_7 (by decide) ?_
    refine ok_iald C dX19_day_8 (fun v2 => ?_)
    refine ok_icmp_ge C 39 dX19_day_9 (by decide) ?_ ?_
    · refine OK.sub (lv' := [(0, .ref a0)]) [0] rfl ?_
      exact oX19_day_39 C T hn hR hin a0 s0
    · refine ok_aload_n C 0 dX19_day_12 rfl ?_
      refine ok_getR C frX19_60_13 dX19_day_13 (fun q3 => ?_)
      refine ok_iload_n C 1 dX19_day_16 rfl ?_
      refine ok_dup2 C dX19_day_17 rfl rfl ?_
      refine ok_iald C dX19_day_18 (fun v4 => ?_)
      refine ok_aload_n C 0 dX19_day_19 rfl ?_
      refine ok_getR C frX19_20_13 dX19_day_20 (fun q5 => ?_)
      refine ok_iconst C (v := 5) dX19_day_23 (by decide) ?_
      refine ok_iald C dX19_day_24 (fun v6 => ?_)
      refine ok_aload_n C 0 dX19_day_25 rfl ?_
      refine ok_iload_n C 1 dX19_day_26 rfl ?_
      refine ok_callV C T [.int x1] (F := fX19_wood a0 x1) (ctX19_wood (C.2.2.2.2.2.2.2.2.1) a0 x1) vlX19_127 viX19_wood rfl rfl (by decide) rfl (by rw [hR.1, hR.2]; decide) (Nat.le_of_ble_eq_true rfl) dX19_day_27 (ok_qI fun v7 s8 => ?_)
      refine ok_imul C dX19_day_30 ?_
      refine ok_iadd C dX19_day_31 ?_
      refine ok_iast C dX19_day_32 (fun s9 _ => ?_)
      refine ok_iincL C 1 (c := 1) (fun v10 => [(1, .int v10), (0, .ref a0)]) dX19_day_33 rfl rfl (by rw [hn]; decide) (fun _ => rfl) (fun v10 => ?_)
      refine ok_goto C 2 dX19_day_36 (by decide) ?_
      refine OK.sub (lv' := [(0, .ref a0), (1, .int v10)]) [1, 0] rfl ?_
      exact ih a0 v10 s9
set_option maxHeartbeats 4000000 in
theorem oX19_day {Γ : CX} (C : OKC Γ cX19_day RX19 (some (.int))) (T : ∀ z ∈ (cx_c Γ).exceptionTable.toList, False) (hn : cx_nL Γ = 2) (hR : cx_fr Γ = 6 ∧ cx_lo Γ = 171) (hin : (cx_meth Γ).name = yX19_day.name) : ∀ (a0 : Nat) (s0 : AS), OK Γ 0 [(0, .ref a0)] [] (fX19_day a0 s0) s0 := by
  intro a0 s0
  unfold fX19_day
  refine ok_iconst C (v := 0) dX19_day_0 (by decide) ?_
  refine ok_istore_n C (i := 1) [(1, .int 0), (0, .ref a0)] dX19_day_1 rfl (by rw [hn]; decide) rfl ?_
  refine OK.sub (lv' := [(0, .ref a0), (1, .int 0)]) [1, 0] rfl ?_
  exact oX19_day_2 C T hn hR hin FU a0 0 s0
theorem ctX19_day {l : Launch} (hl : l.stackTraces = false) {D : va_G} {dA : Nat → ClassId} {B0 : Nat} (a0 : Nat) : Ct l D dA B0 yX19_day (.code yX19_day cX19_day 2 (some (.int)) :: ax_ALL) 6 171 [.ref a0] (fX19_day a0) :=
  Ct.of hl (by decide +kernel) (Nat.le_of_ble_eq_true rfl) fun Γ C _ _ _ _ e5 e6 e7 T hin => oX19_day C T e5 ⟨e6, e7⟩ hin a0 _
/-! ChaseLockerLaw$World.fills(I)LChaseLockerLaw$Filling; -/
def fX19_fills_430 (r41 : Nat → Int32 → Nat → Int32 → Int32 → AS → Option AR) (a0 : Nat) (x1 : Int32) (a2 : Nat) (x3 : Int32) (x4 : Int32) (s0 : AS) : Option AR :=
  lt (x4 + 1) (fun v1 =>
  r41 a0 x1 a2 x3 v1 s0)
def fX19_fills_424 (r41 : Nat → Int32 → Nat → Int32 → Int32 → AS → Option AR) (r141 : Nat → Int32 → Nat → Int32 → Int32 → Int32 → Nat → Int32 → AS → Option AR) (a0 : Nat) (x1 : Int32) (a2 : Nat) (x3 : Int32) (x4 : Int32) (x5 : Int32) (a6 : Nat) (x7 : Int32) (s0 : AS) : Option AR :=
  lt (x7 + (-1)) (fun v1 =>
  r141 a0 x1 a2 x3 x4 x5 a6 v1 s0)
def fX19_fills_418 (r41 : Nat → Int32 → Nat → Int32 → Int32 → AS → Option AR) (r141 : Nat → Int32 → Nat → Int32 → Int32 → Int32 → Nat → Int32 → AS → Option AR) (r152 : Nat → Int32 → Nat → Int32 → Int32 → Int32 → Nat → Int32 → Int32 → AS → Option AR) (a0 : Nat) (x1 : Int32) (a2 : Nat) (x3 : Int32) (x4 : Int32) (x5 : Int32) (a6 : Nat) (x7 : Int32) (x8 : Int32) (s0 : AS) : Option AR :=
  lt (x8 + (-1)) (fun v1 =>
  r152 a0 x1 a2 x3 x4 x5 a6 x7 v1 s0)
def fX19_fills_412 (r41 : Nat → Int32 → Nat → Int32 → Int32 → AS → Option AR) (r141 : Nat → Int32 → Nat → Int32 → Int32 → Int32 → Nat → Int32 → AS → Option AR) (r152 : Nat → Int32 → Nat → Int32 → Int32 → Int32 → Nat → Int32 → Int32 → AS → Option AR) (r163 : Nat → Int32 → Nat → Int32 → Int32 → Int32 → Nat → Int32 → Int32 → Int32 → AS → Option AR) (a0 : Nat) (x1 : Int32) (a2 : Nat) (x3 : Int32) (x4 : Int32) (x5 : Int32) (a6 : Nat) (x7 : Int32) (x8 : Int32) (x9 : Int32) (s0 : AS) : Option AR :=
  lt (x9 + (-1)) (fun v1 =>
  r163 a0 x1 a2 x3 x4 x5 a6 x7 x8 v1 s0)
def fX19_fills_309 (r41 : Nat → Int32 → Nat → Int32 → Int32 → AS → Option AR) (r141 : Nat → Int32 → Nat → Int32 → Int32 → Int32 → Nat → Int32 → AS → Option AR) (r152 : Nat → Int32 → Nat → Int32 → Int32 → Int32 → Nat → Int32 → Int32 → AS → Option AR) (r163 : Nat → Int32 → Nat → Int32 → Int32 → Int32 → Nat → Int32 → Int32 → Int32 → AS → Option AR) (a0 : Nat) (x1 : Int32) (a2 : Nat) (x3 : Int32) (x4 : Int32) (x5 : Int32) (a6 : Nat) (x7 : Int32) (x8 : Int32) (x9 : Int32) (t0 : Int32) (s0 : AS) : Option AR :=
  if t0 < 0 then (
    fX19_fills_412 r41 r141 r152 r163 a0 x1 a2 x3 x4 x5 a6 x7 x8 x9 s0)
  else (
    aI s0 a6 100 3 (fun v1 =>
    if t0 ≤ v1 then (
      gI s0 a2 12 3 (fun v2 =>
      sI s0 a2 12 3 (v2 + 1) (fun s3 =>
      gI s3 a2 12 1 (fun v4 =>
      if (((x7 + x8) + x9) + t0) < v4 then (
        sI s3 a2 12 1 (((x7 + x8) + x9) + t0) (fun s5 =>
        sI s5 a2 12 2 x4 (fun s6 =>
        gR s6 a2 12 0 (fun q7 =>
        uI s6 q7 0 x7 (fun s8 =>
        gR s8 a2 12 0 (fun q9 =>
        uI s8 q9 1 x8 (fun s10 =>
        gR s10 a2 12 0 (fun q11 =>
        uI s10 q11 2 x9 (fun s12 =>
        gR s12 a2 12 0 (fun q13 =>
        uI s12 q13 3 t0 (fun s14 =>
        fX19_fills_412 r41 r141 r152 r163 a0 x1 a2 x3 x4 x5 a6 x7 x8 x9 s14)))))))))))
      else (
        fX19_fills_412 r41 r141 r152 r163 a0 x1 a2 x3 x4 x5 a6 x7 x8 x9 s3)))))
    else (
      fX19_fills_412 r41 r141 r152 r163 a0 x1 a2 x3 x4 x5 a6 x7 x8 x9 s0)))
def fX19_fills_299 (r41 : Nat → Int32 → Nat → Int32 → Int32 → AS → Option AR) (r141 : Nat → Int32 → Nat → Int32 → Int32 → Int32 → Nat → Int32 → AS → Option AR) (r152 : Nat → Int32 → Nat → Int32 → Int32 → Int32 → Nat → Int32 → Int32 → AS → Option AR) (r163 : Nat → Int32 → Nat → Int32 → Int32 → Int32 → Nat → Int32 → Int32 → Int32 → AS → Option AR) (a0 : Nat) (x1 : Int32) (a2 : Nat) (x3 : Int32) (x4 : Int32) (x5 : Int32) (a6 : Nat) (x7 : Int32) (x8 : Int32) (x9 : Int32) (x10 : Int32) (s0 : AS) : Option AR :=
  if x10 = 0 then (
    fX19_fills_309 r41 r141 r152 r163 a0 x1 a2 x3 x4 x5 a6 x7 x8 x9 0 s0)
  else (
    fX19_fills_309 r41 r141 r152 r163 a0 x1 a2 x3 x4 x5 a6 x7 x8 x9 ((-1)) s0)
def fX19_fills_249 (r41 : Nat → Int32 → Nat → Int32 → Int32 → AS → Option AR) (r141 : Nat → Int32 → Nat → Int32 → Int32 → Int32 → Nat → Int32 → AS → Option AR) (r152 : Nat → Int32 → Nat → Int32 → Int32 → Int32 → Nat → Int32 → Int32 → AS → Option AR) (r163 : Nat → Int32 → Nat → Int32 → Int32 → Int32 → Nat → Int32 → Int32 → Int32 → AS → Option AR) (a0 : Nat) (x1 : Int32) (a2 : Nat) (x3 : Int32) (x4 : Int32) (x5 : Int32) (a6 : Nat) (x7 : Int32) (x8 : Int32) (x9 : Int32) (t0 : Int32) (t1 : Int32) (s0 : AS) : Option AR :=
  lt (t0 - t1) (fun v1 =>
  gI s0 a0 13 14 (fun v2 =>
  if v2 ≤ (3 : Int32) then (
    fX19_fills_299 r41 r141 r152 r163 a0 x1 a2 x3 x4 x5 a6 x7 x8 x9 v1 s0)
  else (
    if v1 < 0 then (
      fX19_fills_299 r41 r141 r152 r163 a0 x1 a2 x3 x4 x5 a6 x7 x8 x9 v1 s0)
    else (
      gR s0 a0 13 2 (fun q3 =>
      gR s0 a0 13 4 (fun q4 =>
      aI s0 q4 100 3 (fun v5 =>
      aI s0 q3 100 v5 (fun v6 =>
      if v6 = 0 then none else (
      if (v1 - v1 / v6 * v6) = 0 then (
        gR s0 a0 13 2 (fun q7 =>
        gR s0 a0 13 4 (fun q8 =>
        aI s0 q8 100 3 (fun v9 =>
        aI s0 q7 100 v9 (fun v10 =>
        if v10 = 0 then none else (
        fX19_fills_309 r41 r141 r152 r163 a0 x1 a2 x3 x4 x5 a6 x7 x8 x9 (v1 / v10) s0))))))
      else (
        fX19_fills_299 r41 r141 r152 r163 a0 x1 a2 x3 x4 x5 a6 x7 x8 x9 v1 s0))))))))))
def fX19_fills_222 (r41 : Nat → Int32 → Nat → Int32 → Int32 → AS → Option AR) (r141 : Nat → Int32 → Nat → Int32 → Int32 → Int32 → Nat → Int32 → AS → Option AR) (r152 : Nat → Int32 → Nat → Int32 → Int32 → Int32 → Nat → Int32 → Int32 → AS → Option AR) (r163 : Nat → Int32 → Nat → Int32 → Int32 → Int32 → Nat → Int32 → Int32 → Int32 → AS → Option AR) (a0 : Nat) (x1 : Int32) (a2 : Nat) (x3 : Int32) (x4 : Int32) (x5 : Int32) (a6 : Nat) (x7 : Int32) (x8 : Int32) (x9 : Int32) (t0 : Int32) (t1 : Int32) (s0 : AS) : Option AR :=
  gI s0 a0 13 14 (fun v1 =>
  if v1 ≤ (2 : Int32) then (
    fX19_fills_249 r41 r141 r152 r163 a0 x1 a2 x3 x4 x5 a6 x7 x8 x9 (t0 - t1) 0 s0)
  else (
    gR s0 a0 13 2 (fun q2 =>
    gR s0 a0 13 4 (fun q3 =>
    aI s0 q3 100 2 (fun v4 =>
    aI s0 q2 100 v4 (fun v5 =>
    fX19_fills_249 r41 r141 r152 r163 a0 x1 a2 x3 x4 x5 a6 x7 x8 x9 (t0 - t1) (x9 * v5) s0))))))
def fX19_fills_195 (r41 : Nat → Int32 → Nat → Int32 → Int32 → AS → Option AR) (r141 : Nat → Int32 → Nat → Int32 → Int32 → Int32 → Nat → Int32 → AS → Option AR) (r152 : Nat → Int32 → Nat → Int32 → Int32 → Int32 → Nat → Int32 → Int32 → AS → Option AR) (r163 : Nat → Int32 → Nat → Int32 → Int32 → Int32 → Nat → Int32 → Int32 → Int32 → AS → Option AR) (a0 : Nat) (x1 : Int32) (a2 : Nat) (x3 : Int32) (x4 : Int32) (x5 : Int32) (a6 : Nat) (x7 : Int32) (x8 : Int32) (x9 : Int32) (t0 : Int32) (t1 : Int32) (s0 : AS) : Option AR :=
  gI s0 a0 13 14 (fun v1 =>
  if v1 ≤ (1 : Int32) then (
    fX19_fills_222 r41 r141 r152 r163 a0 x1 a2 x3 x4 x5 a6 x7 x8 x9 (t0 - t1) 0 s0)
  else (
    gR s0 a0 13 2 (fun q2 =>
    gR s0 a0 13 4 (fun q3 =>
    aI s0 q3 100 1 (fun v4 =>
    aI s0 q2 100 v4 (fun v5 =>
    fX19_fills_222 r41 r141 r152 r163 a0 x1 a2 x3 x4 x5 a6 x7 x8 x9 (t0 - t1) (x8 * v5) s0))))))
def fX19_fills_163 (r41 : Nat → Int32 → Nat → Int32 → Int32 → AS → Option AR) (r141 : Nat → Int32 → Nat → Int32 → Int32 → Int32 → Nat → Int32 → AS → Option AR) (r152 : Nat → Int32 → Nat → Int32 → Int32 → Int32 → Nat → Int32 → Int32 → AS → Option AR) : Nat → Nat → Int32 → Nat → Int32 → Int32 → Int32 → Nat → Int32 → Int32 → Int32 → AS → Option AR
  | 0, _, _, _, _, _, _, _, _, _, _, _ => none
  | n + 1, a0, x1, a2, x3, x4, x5, a6, x7, x8, x9, s0 =>
    if x9 < 0 then (
      fX19_fills_418 r41 r141 r152 a0 x1 a2 x3 x4 x5 a6 x7 x8 s0)
    else (
      gI s0 a0 13 14 (fun v1 =>
      if v1 ≤ 0 then (
        fX19_fills_195 r41 r141 r152 (fX19_fills_163 r41 r141 r152 n) a0 x1 a2 x3 x4 x5 a6 x7 x8 x9 x5 0 s0)
      else (
        gR s0 a0 13 2 (fun q2 =>
        gR s0 a0 13 4 (fun q3 =>
        aI s0 q3 100 0 (fun v4 =>
        aI s0 q2 100 v4 (fun v5 =>
        fX19_fills_195 r41 r141 r152 (fX19_fills_163 r41 r141 r152 n) a0 x1 a2 x3 x4 x5 a6 x7 x8 x9 x5 (x7 * v5) s0)))))))
def fX19_fills_152 (r41 : Nat → Int32 → Nat → Int32 → Int32 → AS → Option AR) (r141 : Nat → Int32 → Nat → Int32 → Int32 → Int32 → Nat → Int32 → AS → Option AR) : Nat → Nat → Int32 → Nat → Int32 → Int32 → Int32 → Nat → Int32 → Int32 → AS → Option AR
  | 0, _, _, _, _, _, _, _, _, _, _ => none
  | n + 1, a0, x1, a2, x3, x4, x5, a6, x7, x8, s0 =>
    if x8 < 0 then (
      fX19_fills_424 r41 r141 a0 x1 a2 x3 x4 x5 a6 x7 s0)
    else (
      aI s0 a6 100 2 (fun v1 =>
      fX19_fills_163 r41 r141 (fX19_fills_152 r41 r141 n) FU a0 x1 a2 x3 x4 x5 a6 x7 x8 v1 s0))
def fX19_fills_141 (r41 : Nat → Int32 → Nat → Int32 → Int32 → AS → Option AR) : Nat → Nat → Int32 → Nat → Int32 → Int32 → Int32 → Nat → Int32 → AS → Option AR
  | 0, _, _, _, _, _, _, _, _, _ => none
  | n + 1, a0, x1, a2, x3, x4, x5, a6, x7, s0 =>
    if x7 < 0 then (
      fX19_fills_430 r41 a0 x1 a2 x3 x4 s0)
    else (
      aI s0 a6 100 1 (fun v1 =>
      fX19_fills_152 r41 (fX19_fills_141 r41 n) FU a0 x1 a2 x3 x4 x5 a6 x7 v1 s0))
def fX19_fills_135 (r41 : Nat → Int32 → Nat → Int32 → Int32 → AS → Option AR) (a0 : Nat) (x1 : Int32) (a2 : Nat) (x3 : Int32) (x4 : Int32) (x5 : Int32) (a6 : Nat) (s0 : AS) : Option AR :=
  aI s0 a6 100 0 (fun v1 =>
  fX19_fills_141 r41 FU a0 x1 a2 x3 x4 x5 a6 v1 s0)
def fX19_fills_128 (r41 : Nat → Int32 → Nat → Int32 → Int32 → AS → Option AR) (r93 : Nat → Int32 → Nat → Int32 → Int32 → Int32 → Nat → Int32 → AS → Option AR) (a0 : Nat) (x1 : Int32) (a2 : Nat) (x3 : Int32) (x4 : Int32) (x5 : Int32) (a6 : Nat) (x7 : Int32) (t0 : Nat) (t1 : Int32) (t2 : Int32) (s0 : AS) : Option AR :=
  uI s0 t0 t1 t2 (fun s1 =>
  lt (x7 + 1) (fun v2 =>
  r93 a0 x1 a2 x3 x4 x5 a6 v2 s1))
def fX19_fills_93 (r41 : Nat → Int32 → Nat → Int32 → Int32 → AS → Option AR) : Nat → Nat → Int32 → Nat → Int32 → Int32 → Int32 → Nat → Int32 → AS → Option AR
  | 0, _, _, _, _, _, _, _, _, _ => none
  | n + 1, a0, x1, a2, x3, x4, x5, a6, x7, s0 =>
    if (4 : Int32) ≤ x7 then (
      fX19_fills_135 r41 a0 x1 a2 x3 x4 x5 a6 s0)
    else (
      gI s0 a0 13 14 (fun v1 =>
      if v1 ≤ x7 then (
        fX19_fills_128 r41 (fX19_fills_93 r41 n) a0 x1 a2 x3 x4 x5 a6 x7 a6 x7 0 s0)
      else (
        gR s0 a0 13 3 (fun q2 =>
        gR s0 a0 13 4 (fun q3 =>
        aI s0 q3 100 x7 (fun v4 =>
        aI s0 q2 100 v4 (fun v5 =>
        fX19_fills_128 r41 (fX19_fills_93 r41 n) a0 x1 a2 x3 x4 x5 a6 x7 a6 x7 v5 s0)))))))
def fX19_fills_82 (r41 : Nat → Int32 → Nat → Int32 → Int32 → AS → Option AR) (a0 : Nat) (x1 : Int32) (a2 : Nat) (x3 : Int32) (x4 : Int32) (t0 : Int32) (t1 : Int32) (s0 : AS) : Option AR :=
  lt (t0 - t1) (fun v1 =>
  nA s0 100 4 (fun q2 s3 =>
  fX19_fills_93 r41 FU a0 x1 a2 x3 x4 v1 q2 0 s3))
def fX19_fills_57 (r41 : Nat → Int32 → Nat → Int32 → Int32 → AS → Option AR) (a0 : Nat) (x1 : Int32) (a2 : Nat) (x3 : Int32) (x4 : Int32) (t0 : Int32) (t1 : Int32) (s0 : AS) : Option AR :=
  if t1 < t0 then (
    some (.inl (some (.ref a2)), s0))
  else (
    cV s0 a0 13 (fX19_need a0 x1 s0) (qI (fun v1 s2 =>
    if x3 = 0 then (
      fX19_fills_82 r41 a0 x1 a2 x3 x4 v1 0 s2)
    else (
      gR s2 a0 13 1 (fun q3 =>
      aI s2 q3 100 2 (fun v4 =>
      fX19_fills_82 r41 a0 x1 a2 x3 x4 v1 (v4 + x4) s2))))))
def fX19_fills_41  : Nat → Nat → Int32 → Nat → Int32 → Int32 → AS → Option AR
  | 0, _, _, _, _, _, _ => none
  | n + 1, a0, x1, a2, x3, x4, s0 =>
    if x3 = 0 then (
      fX19_fills_57 (fX19_fills_41 n) a0 x1 a2 x3 x4 x4 ((-1)) s0)
    else (
      gR s0 a0 13 1 (fun q1 =>
      aI s0 q1 100 3 (fun v2 =>
      fX19_fills_57 (fX19_fills_41 n) a0 x1 a2 x3 x4 x4 v2 s0)))
def fX19_fills_39  (a0 : Nat) (x1 : Int32) (a2 : Nat) (x3 : Int32) (t0 : Int32) (s0 : AS) : Option AR :=
  fX19_fills_41 FU a0 x1 a2 x3 t0 s0
def fX19_fills_29  (a0 : Nat) (x1 : Int32) (a2 : Nat) (t0 : Int32) (s0 : AS) : Option AR :=
  if t0 = 0 then (
    fX19_fills_39 a0 x1 a2 t0 ((-1)) s0)
  else (
    fX19_fills_39 a0 x1 a2 t0 0 s0)
def fX19_fills_24  (a0 : Nat) (x1 : Int32) (a2 : Nat) (s0 : AS) : Option AR :=
  fX19_fills_29 a0 x1 a2 1 s0
def fX19_fills (a0 : Nat) (x1 : Int32) (s0 : AS) : Option AR :=
  nO s0 12 4 (fun q1 s2 =>
  cS s2 (fX18_init q1 s2) (qV (fun s3 =>
  gR s3 a0 13 11 (fun q4 =>
  aI s3 q4 100 x1 (fun v5 =>
  if 0 ≤ v5 then (
    fX19_fills_24 a0 x1 q1 s3)
  else (
    gI s3 a0 13 15 (fun v6 =>
    if v6 ≤ 0 then (
      fX19_fills_29 a0 x1 q1 0 s3)
    else (
      fX19_fills_24 a0 x1 q1 s3))))))))
set_option maxHeartbeats 4000000 in
theorem oX19_fills_430 {Γ : CX} (C : OKC Γ cX19_fills RX19 (some (.object "ChaseLockerLaw$Filling"))) (T : ∀ z ∈ (cx_c Γ).exceptionTable.toList, False) (hn : cx_nL Γ = 12) (hR : cx_fr Γ = 3 ∧ cx_lo Γ = 106) (hin : (cx_meth Γ).name = yX19_fills.name) {r41 : Nat → Int32 → Nat → Int32 → Int32 → AS → Option AR} (h41 : ∀ (a0 : Nat) (x1 : Int32) (a2 : Nat) (x3 : Int32) (x4 : Int32) (s0 : AS), OK Γ 41 [(0, .ref a0), (1, .int x1), (2, .ref a2), (3, .int x3), (4, .int x4)] [] (r41 a0 x1 a2 x3 x4 s0) s0) : ∀ (a0 : Nat) (x1 : Int32) (a2 : Nat) (x3 : Int32) (x4 : Int32) (s0 : AS), OK Γ 430 [(0, .ref a0), (1, .int x1), (2, .ref a2), (3, .int x3), (4, .int x4)] [] (fX19_fills_430 r41 a0 x1 a2 x3 x4 s0) s0 := by
  intro a0 x1 a2 x3 x4 s0
  unfold fX19_fills_430
  refine ok_iincL C 4 (c := 1) (fun v1 => [(4, .int v1), (0, .ref a0), (1, .int x1), (2, .ref a2), (3, .int x3)]) dX19_fills_430 rfl rfl (by rw [hn]; decide) (fun _ => rfl) (fun v1 => ?_)
  refine ok_goto C 41 dX19_fills_433 (by decide) ?_
  refine OK.sub (lv' := [(0, .ref a0), (1, .int x1), (2, .ref a2), (3, .int x3), (4, .int v1)]) [1, 2, 3, 4, 0] rfl ?_
  exact h41 a0 x1 a2 x3 v1 s0
set_option maxHeartbeats 4000000 in
theorem oX19_fills_424 {Γ : CX} (C : OKC Γ cX19_fills RX19 (some (.object "ChaseLockerLaw$Filling"))) (T : ∀ z ∈ (cx_c Γ).exceptionTable.toList, False) (hn : cx_nL Γ = 12) (hR : cx_fr Γ = 3 ∧ cx_lo Γ = 106) (hin : (cx_meth Γ).name = yX19_fills.name) {r41 : Nat → Int32 → Nat → Int32 → Int32 → AS → Option AR} {r141 : Nat → Int32 → Nat → Int32 → Int32 → Int32 → Nat → Int32 → AS → Option AR} (h41 : ∀ (a0 : Nat) (x1 : Int32) (a2 : Nat) (x3 : Int32) (x4 : Int32) (s0 : AS), OK Γ 41 [(0, .ref a0), (1, .int x1), (2, .ref a2), (3, .int x3), (4, .int x4)] [] (r41 a0 x1 a2 x3 x4 s0) s0) (h141 : ∀ (a0 : Nat) (x1 : Int32) (a2 : Nat) (x3 : Int32) (x4 : Int32) (x5 : Int32) (a6 : Nat) (x7 : Int32) (s0 : AS), OK Γ 141 [(0, .ref a0), (1, .int x1), (2, .ref a2), (3, .int x3), (4, .int x4), (5, .int x5), (6, .ref a6), (7, .int x7)] [] (r141 a0 x1 a2 x3 x4 x5 a6 x7 s0) s0) : ∀ (a0 : Nat) (x1 : Int32) (a2 : Nat) (x3 : Int32) (x4 : Int32) (x5 : Int32) (a6 : Nat) (x7 : Int32) (s0 : AS), OK Γ 424 [(0, .ref a0), (1, .int x1), (2, .ref a2), (3, .int x3), (4, .int x4), (5, .int x5), (6, .ref a6), (7, .int x7)] [] (fX19_fills_424 r41 r141 a0 x1 a2 x3 x4 x5 a6 x7 s0) s0 := by
  intro a0 x1 a2 x3 x4 x5 a6 x7 s0
  unfold fX19_fills_424
  refine ok_iincL C 7 (c := (-1)) (fun v1 => [(7, .int v1), (0, .ref a0), (1, .int x1), (2, .ref a2), (3, .int x3), (4, .int x4), (5, .int x5), (6, .ref a6)]) dX19_fills_424 rfl rfl (by rw [hn]; decide) (fun _ => rfl) (fun v1 => ?_)
  refine ok_goto C 141 dX19_fills_427 (by decide) ?_
  refine OK.sub (lv' := [(0, .ref a0), (1, .int x1), (2, .ref a2), (3, .int x3), (4, .int x4), (5, .int x5), (6, .ref a6), (7, .int v1)]) [1, 2, 3, 4, 5, 6, 7, 0] rfl ?_
  exact h141 a0 x1 a2 x3 x4 x5 a6 v1 s0
set_option maxHeartbeats 4000000 in
theorem oX19_fills_418 {Γ : CX} (C : OKC Γ cX19_fills RX19 (some (.object "ChaseLockerLaw$Filling"))) (T : ∀ z ∈ (cx_c Γ).exceptionTable.toList, False) (hn : cx_nL Γ = 12) (hR : cx_fr Γ = 3 ∧ cx_lo Γ = 106) (hin : (cx_meth Γ).name = yX19_fills.name) {r41 : Nat → Int32 → Nat → Int32 → Int32 → AS → Option AR} {r141 : Nat → Int32 → Nat → Int32 → Int32 → Int32 → Nat → Int32 → AS → Option AR} {r152 : Nat → Int32 → Nat → Int32 → Int32 → Int32 → Nat → Int32 → Int32 → AS → Option AR} (h41 : ∀ (a0 : Nat) (x1 : Int32) (a2 : Nat) (x3 : Int32) (x4 : Int32) (s0 : AS), OK Γ 41 [(0, .ref a0), (1, .int x1), (2, .ref a2), (3, .int x3), (4, .int x4)] [] (r41 a0 x1 a2 x3 x4 s0) s0) (h141 : ∀ (a0 : Nat) (x1 : Int32) (a2 : Nat) (x3 : Int32) (x4 : Int32) (x5 : Int32) (a6 : Nat) (x7 : Int32) (s0 : AS), OK Γ 141 [(0, .ref a0), (1, .int x1), (2, .ref a2), (3, .int x3), (4, .int x4), (5, .int x5), (6, .ref a6), (7, .int x7)] [] (r141 a0 x1 a2 x3 x4 x5 a6 x7 s0) s0) (h152 : ∀ (a0 : Nat) (x1 : Int32) (a2 : Nat) (x3 : Int32) (x4 : Int32) (x5 : Int32) (a6 : Nat) (x7 : Int32) (x8 : Int32) (s0 : AS), OK Γ 152 [(0, .ref a0), (1, .int x1), (2, .ref a2), (3, .int x3), (4, .int x4), (5, .int x5), (6, .ref a6), (7, .int x7), (8, .int x8)] [] (r152 a0 x1 a2 x3 x4 x5 a6 x7 x8 s0) s0) : ∀ (a0 : Nat) (x1 : Int32) (a2 : Nat) (x3 : Int32) (x4 : Int32) (x5 : Int32) (a6 : Nat) (x7 : Int32) (x8 : Int32) (s0 : AS), OK Γ 418 [(0, .ref a0), (1, .int x1), (2, .ref a2), (3, .int x3), (4, .int x4), (5, .int x5), (6, .ref a6), (7, .int x7), (8, .int x8)] [] (fX19_fills_418 r41 r141 r152 a0 x1 a2 x3 x4 x5 a6 x7 x8 s0) s0 := by
  intro a0 x1 a2 x3 x4 x5 a6 x7 x8 s0
  unfold fX19_fills_418
  refine ok_iincL C 8 (c := (-1)) (fun v1 => [(8, .int v1), (0, .ref a0), (1, .int x1), (2, .ref a2), (3, .int x3), (4, .int x4), (5, .int x5), (6, .ref a6), (7, .int x7)]) dX19_fills_418 rfl rfl (by rw [hn]; decide) (fun _ => rfl) (fun v1 => ?_)
  refine ok_goto C 152 dX19_fills_421 (by decide) ?_
  refine OK.sub (lv' := [(0, .ref a0), (1, .int x1), (2, .ref a2), (3, .int x3), (4, .int x4), (5, .int x5), (6, .ref a6), (7, .int x7), (8, .int v1)]) [1, 2, 3, 4, 5, 6, 7, 8, 0] rfl ?_
  exact h152 a0 x1 a2 x3 x4 x5 a6 x7 v1 s0
set_option maxHeartbeats 4000000 in
theorem oX19_fills_412 {Γ : CX} (C : OKC Γ cX19_fills RX19 (some (.object "ChaseLockerLaw$Filling"))) (T : ∀ z ∈ (cx_c Γ).exceptionTable.toList, False) (hn : cx_nL Γ = 12) (hR : cx_fr Γ = 3 ∧ cx_lo Γ = 106) (hin : (cx_meth Γ).name = yX19_fills.name) {r41 : Nat → Int32 → Nat → Int32 → Int32 → AS → Option AR} {r141 : Nat → Int32 → Nat → Int32 → Int32 → Int32 → Nat → Int32 → AS → Option AR} {r152 : Nat → Int32 → Nat → Int32 → Int32 → Int32 → Nat → Int32 → Int32 → AS → Option AR} {r163 : Nat → Int32 → Nat → Int32 → Int32 → Int32 → Nat → Int32 → Int32 → Int32 → AS → Option AR} (h41 : ∀ (a0 : Nat) (x1 : Int32) (a2 : Nat) (x3 : Int32) (x4 : Int32) (s0 : AS), OK Γ 41 [(0, .ref a0), (1, .int x1), (2, .ref a2), (3, .int x3), (4, .int x4)] [] (r41 a0 x1 a2 x3 x4 s0) s0) (h141 : ∀ (a0 : Nat) (x1 : Int32) (a2 : Nat) (x3 : Int32) (x4 : Int32) (x5 : Int32) (a6 : Nat) (x7 : Int32) (s0 : AS), OK Γ 141 [(0, .ref a0), (1, .int x1), (2, .ref a2), (3, .int x3), (4, .int x4), (5, .int x5), (6, .ref a6), (7, .int x7)] [] (r141 a0 x1 a2 x3 x4 x5 a6 x7 s0) s0) (h152 : ∀ (a0 : Nat) (x1 : Int32) (a2 : Nat) (x3 : Int32) (x4 : Int32) (x5 : Int32) (a6 : Nat) (x7 : Int32) (x8 : Int32) (s0 : AS), OK Γ 152 [(0, .ref a0), (1, .int x1), (2, .ref a2), (3, .int x3), (4, .int x4), (5, .int x5), (6, .ref a6), (7, .int x7), (8, .int x8)] [] (r152 a0 x1 a2 x3 x4 x5 a6 x7 x8 s0) s0) (h163 : ∀ (a0 : Nat) (x1 : Int32) (a2 : Nat) (x3 : Int32) (x4 : Int32) (x5 : Int32) (a6 : Nat) (x7 : Int32) (x8 : Int32) (x9 : Int32) (s0 : AS), OK Γ 163 [(0, .ref a0), (1, .int x1), (2, .ref a2), (3, .int x3), (4, .int x4), (5, .int x5), (6, .ref a6), (7, .int x7), (8, .int x8), (9, .int x9)] [] (r163 a0 x1 a2 x3 x4 x5 a6 x7 x8 x9 s0) s0) : ∀ (a0 : Nat) (x1 : Int32) (a2 : Nat) (x3 : Int32) (x4 : Int32) (x5 : Int32) (a6 : Nat) (x7 : Int32) (x8 : Int32) (x9 : Int32) (s0 : AS), OK Γ 412 [(0, .ref a0), (1, .int x1), (2, .ref a2), (3, .int x3), (4, .int x4), (5, .int x5), (6, .ref a6), (7, .int x7), (8, .int x8), (9, .int x9)] [] (fX19_fills_412 r41 r141 r152 r163 a0 x1 a2 x3 x4 x5 a6 x7 x8 x9 s0) s0 := by
  intro a0 x1 a2 x3 x4 x5 a6 x7 x8 x9 s0
  unfold fX19_fills_412
  refine ok_iincL C 9 (c := (-1)) (fun v1 => [(9, .int v1), (0, .ref a0), (1, .int x1), (2, .ref a2), (3, .int x3), (4, .int x4), (5, .int x5), (6, .ref a6), (7, .int x7), (8, .int x8)]) dX19_fills_412 rfl rfl (by rw [hn]; decide) (fun _ => rfl) (fun v1 => ?_)
  refine ok_goto C 163 dX19_fills_415 (by decide) ?_
  refine OK.sub (lv' := [(0, .ref a0), (1, .int x1), (2, .ref a2), (3, .int x3), (4, .int x4), (5, .int x5), (6, .ref a6), (7, .int x7), (8, .int x8), (9, .int v1)]) [1, 2, 3, 4, 5, 6, 7, 8, 9, 0] rfl ?_
  exact h163 a0 x1 a2 x3 x4 x5 a6 x7 x8 v1 s0
set_option maxHeartbeats 4000000 in
theorem oX19_fills_309 {Γ : CX} (C : OKC Γ cX19_fills RX19 (some (.object "ChaseLockerLaw$Filling"))) (T : ∀ z ∈ (cx_c Γ).exceptionTable.toList, False) (hn : cx_nL Γ = 12) (hR : cx_fr Γ = 3 ∧ cx_lo Γ = 106) (hin : (cx_meth Γ).name = yX19_fills.name) {r41 : Nat → Int32 → Nat → Int32 → Int32 → AS → Option AR} {r141 : Nat → Int32 → Nat → Int32 → Int32 → Int32 → Nat → Int32 → AS → Option AR} {r152 : Nat → Int32 → Nat → Int32 → Int32 → Int32 → Nat → Int32 → Int32 → AS → Option AR} {r163 : Nat → Int32 → Nat → Int32 → Int32 → Int32 → Nat → Int32 → Int32 → Int32 → AS → Option AR} (h41 : ∀ (a0 : Nat) (x1 : Int32) (a2 : Nat) (x3 : Int32) (x4 : Int32) (s0 : AS), OK Γ 41 [(0, .ref a0), (1, .int x1), (2, .ref a2), (3, .int x3), (4, .int x4)] [] (r41 a0 x1 a2 x3 x4 s0) s0) (h141 : ∀ (a0 : Nat) (x1 : Int32) (a2 : Nat) (x3 : Int32) (x4 : Int32) (x5 : Int32) (a6 : Nat) (x7 : Int32) (s0 : AS), OK Γ 141 [(0, .ref a0), (1, .int x1), (2, .ref a2), (3, .int x3), (4, .int x4), (5, .int x5), (6, .ref a6), (7, .int x7)] [] (r141 a0 x1 a2 x3 x4 x5 a6 x7 s0) s0) (h152 : ∀ (a0 : Nat) (x1 : Int32) (a2 : Nat) (x3 : Int32) (x4 : Int32) (x5 : Int32) (a6 : Nat) (x7 : Int32) (x8 : Int32) (s0 : AS), OK Γ 152 [(0, .ref a0), (1, .int x1), (2, .ref a2), (3, .int x3), (4, .int x4), (5, .int x5), (6, .ref a6), (7, .int x7), (8, .int x8)] [] (r152 a0 x1 a2 x3 x4 x5 a6 x7 x8 s0) s0) (h163 : ∀ (a0 : Nat) (x1 : Int32) (a2 : Nat) (x3 : Int32) (x4 : Int32) (x5 : Int32) (a6 : Nat) (x7 : Int32) (x8 : Int32) (x9 : Int32) (s0 : AS), OK Γ 163 [(0, .ref a0), (1, .int x1), (2, .ref a2), (3, .int x3), (4, .int x4), (5, .int x5), (6, .ref a6), (7, .int x7), (8, .int x8), (9, .int x9)] [] (r163 a0 x1 a2 x3 x4 x5 a6 x7 x8 x9 s0) s0) : ∀ (a0 : Nat) (x1 : Int32) (a2 : Nat) (x3 : Int32) (x4 : Int32) (x5 : Int32) (a6 : Nat) (x7 : Int32) (x8 : Int32) (x9 : Int32) (t0 : Int32) (s0 : AS), OK Γ 309 [(0, .ref a0), (1, .int x1), (2, .ref a2), (3, .int x3), (4, .int x4), (5, .int x5), (6, .ref a6), (7, .int x7), (8, .int x8), (9, .int x9)] [.int t0] (fX19_fills_309 r41 r141 r152 r163 a0 x1 a2 x3 x4 x5 a6 x7 x8 x9 t0 s0) s0 := by
  intro a0 x1 a2 x3 x4 x5 a6 x7 x8 x9 t0 s0
  unfold fX19_fills_309
  refine ok_istore C (i := 11) [(11, .int t0), (0, .ref a0), (1, .int x1), (2, .ref a2), (3, .int x3), (4, .int x4), (5, .int x5), (6, .ref a6), (7, .int x7), (8, .int x8), (9, .int x9)] dX19_fills_309 (by rw [hn]; decide) rfl ?_
  refine ok_iload C 0 dX19_fills_311 rfl ?_
  refine ok_if_lt C 412 dX19_fills_313 (by decide) ?_ ?_
  · refine OK.sub (lv' := [(0, .ref a0), (1, .int x1), (2, .ref a2), (3, .int x3), (4, .int x4), (5, .int x5), (6, .ref a6), (7, .int x7), (8, .int x8), (9, .int x9)]) [1, 2, 3, 4, 5, 6, 7, 8, 9, 10] rfl ?_
    exact oX19_fills_412 C T hn hR hin h41 h141 h152 h163 a0 x1 a2 x3 x4 x5 a6 x7 x8 x9 s0
  · refine ok_iload C 0 dX19_fills_316 rfl ?_
    refine ok_aload C 7 dX19_fills_318 rfl ?_
    refine ok_iconst C (v := 3) dX19_fills_320 (by decide) ?_
    refine ok_iald C dX19_fills_321 (fun v1 => ?_)
    refine ok_icmp_le C 328 dX19_fills_322 (by decide) ?_ ?_
    · refine ok_aload_n C 3 dX19_fills_328 rfl ?_
      refine ok_dup C dX19_fills_329 rfl ?_
      refine ok_getNI C fnrX19_133_12 dX19_fills_330 (fun v2 => ?_)
      refine ok_iconst C (v := 1) dX19_fills_333 (by decide) ?_
      refine ok_iadd C dX19_fills_334 ?_
      refine ok_putNI C fnlX19_133_12 dX19_fills_335 (fun s3 _ => ?_)
      refine ok_iload C 8 dX19_fills_338 rfl ?_
      refine ok_iload C 9 dX19_fills_340 rfl ?_
      refine ok_iadd C dX19_fills_342 ?_
      refine ok_iload C 10 dX19_fills_343 rfl ?_
      refine ok_iadd C dX19_fills_345 ?_
      refine ok_iload C 0 dX19_fills_346 rfl ?_
      refine ok_iadd C dX19_fills_348 ?_
      refine ok_aload_n C 3 dX19_fills_349 rfl ?_
      refine ok_getNI C fnrX19_136_12 dX19_fills_350 (fun v4 => ?_)
      refine ok_icmp_lt C 359 dX19_fills_353 (by decide) ?_ ?_
      · refine ok_aload_n C 3 dX19_fills_359 rfl ?_
        refine ok_iload C 8 dX19_fills_360 rfl ?_
        refine ok_iload C 9 dX19_fills_362 rfl ?_
        refine ok_iadd C dX19_fills_364 ?_
        refine ok_iload C 10 dX19_fills_365 rfl ?_
        refine ok_iadd C dX19_fills_367 ?_
        refine ok_iload C 0 dX19_fills_368 rfl ?_
        refine ok_iadd C dX19_fills_370 ?_
        refine ok_putNI C fnlX19_136_12 dX19_fills_371 (fun s5 _ => ?_)
        refine ok_aload_n C 3 dX19_fills_374 rfl ?_
        refine ok_iload C 5 dX19_fills_375 rfl ?_
        refine ok_putNI C fnlX19_138_12 dX19_fills_377 (fun s6 _ => ?_)
        refine ok_aload_n C 3 dX19_fills_380 rfl ?_
        refine ok_getNR C fnrX19_141_12 dX19_fills_381 (fun q7 => ?_)
        refine ok_iconst C (v := 0) dX19_fills_384 (by decide) ?_
        refine ok_iload C 8 dX19_fills_385 rfl ?_
        refine ok_iast C dX19_fills_387 (fun s8 _ => ?_)
        refine ok_aload_n C 3 dX19_fills_388 rfl ?_
        refine ok_getNR C fnrX19_141_12 dX19_fills_389 (fun q9 => ?_)
        refine ok_iconst C (v := 1) dX19_fills_392 (by decide) ?_
        refine ok_iload C 9 dX19_fills_393 rfl ?_
        refine ok_iast C dX19_fills_395 (fun s10 _ => ?_)
        refine ok_aload_n C 3 dX19_fills_396 rfl ?_
        refine ok_getNR C fnrX19_141_12 dX19_fills_397 (fun q11 => ?_)
        refine ok_iconst C (v := 2) dX19_fills_400 (by decide) ?_
        refine ok_iload C 10 dX19_fills_401 rfl ?_
        refine ok_iast C dX19_fills_403 (fun s12 _ => ?_)
        refine ok_aload_n C 3 dX19_fills_404 rfl ?_
        refine ok_getNR C fnrX19_141_12 dX19_fills_405 (fun q13 => ?_)
        refine ok_iconst C (v := 3) dX19_fills_408 (by decide) ?_
        refine ok_iload C 0 dX19_fills_409 rfl ?_
        refine ok_iast C dX19_fills_411 (fun s14 _ => ?_)
        refine OK.sub (lv' := [(0, .ref a0), (1, .int x1), (2, .ref a2), (3, .int x3), (4, .int x4), (5, .int x5), (6, .ref a6), (7, .int x7), (8, .int x8), (9, .int x9)]) [1, 2, 3, 4, 5, 6, 7, 8, 9, 10] rfl ?_
        exact oX19_fills_412 C T hn hR hin h41 h141 h152 h163 a0 x1 a2 x3 x4 x5 a6 x7 x8 x9 s14
      · refine ok_goto C 412 dX19_fills_356 (by decide) ?_
        refine OK.sub (lv' := [(0, .ref a0), (1, .int x1), (2, .ref a2), (3, .int x3), (4, .int x4), (5, .int x5), (6, .ref a6), (7, .int x7), (8, .int x8), (9, .int x9)]) [1, 2, 3, 4, 5, 6, 7, 8, 9, 10] rfl ?_
        exact oX19_fills_412 C T hn hR hin h41 h141 h152 h163 a0 x1 a2 x3 x4 x5 a6 x7 x8 x9 s3
    · refine ok_goto C 412 dX19_fills_325 (by decide) ?_
      refine OK.sub (lv' := [(0, .ref a0), (1, .int x1), (2, .ref a2), (3, .int x3), (4, .int x4), (5, .int x5), (6, .ref a6), (7, .int x7), (8, .int x8), (9, .int x9)]) [1, 2, 3, 4, 5, 6, 7, 8, 9, 10] rfl ?_
      exact oX19_fills_412 C T hn hR hin h41 h141 h152 h163 a0 x1 a2 x3 x4 x5 a6 x7 x8 x9 s0
set_option maxHeartbeats 4000000 in
theorem oX19_fills_299 {Γ : CX} (C : OKC Γ cX19_fills RX19 (some (.object "ChaseLockerLaw$Filling"))) (T : ∀ z ∈ (cx_c Γ).exceptionTable.toList, False) (hn : cx_nL Γ = 12) (hR : cx_fr Γ = 3 ∧ cx_lo Γ = 106) (hin : (cx_meth Γ).name = yX19_fills.name) {r41 : Nat → Int32 → Nat → Int32 → Int32 → AS → Option AR} {r141 : Nat → Int32 → Nat → Int32 → Int32 → Int32 → Nat → Int32 → AS → Option AR} {r152 : Nat → Int32 → Nat → Int32 → Int32 → Int32 → Nat → Int32 → Int32 → AS → Option AR} {r163 : Nat → Int32 → Nat → Int32 → Int32 → Int32 → Nat → Int32 → Int32 → Int32 → AS → Option AR} (h41 : ∀ (a0 : Nat) (x1 : Int32) (a2 : Nat) (x3 : Int32) (x4 : Int32) (s0 : AS), OK Γ 41 [(0, .ref a0), (1, .int x1), (2, .ref a2), (3, .int x3), (4, .int x4)] [] (r41 a0 x1 a2 x3 x4 s0) s0) (h141 : ∀ (a0 : Nat) (x1 : Int32) (a2 : Nat) (x3 : Int32) (x4 : Int32) (x5 : Int32) (a6 : Nat) (x7 : Int32) (s0 : AS), OK Γ 141 [(0, .ref a0), (1, .int x1), (2, .ref a2), (3, .int x3), (4, .int x4), (5, .int x5), (6, .ref a6), (7, .int x7)] [] (r141 a0 x1 a2 x3 x4 x5 a6 x7 s0) s0) (h152 : ∀ (a0 : Nat) (x1 : Int32) (a2 : Nat) (x3 : Int32) (x4 : Int32) (x5 : Int32) (a6 : Nat) (x7 : Int32) (x8 : Int32) (s0 : AS), OK Γ 152 [(0, .ref a0), (1, .int x1), (2, .ref a2), (3, .int x3), (4, .int x4), (5, .int x5), (6, .ref a6), (7, .int x7), (8, .int x8)] [] (r152 a0 x1 a2 x3 x4 x5 a6 x7 x8 s0) s0) (h163 : ∀ (a0 : Nat) (x1 : Int32) (a2 : Nat) (x3 : Int32) (x4 : Int32) (x5 : Int32) (a6 : Nat) (x7 : Int32) (x8 : Int32) (x9 : Int32) (s0 : AS), OK Γ 163 [(0, .ref a0), (1, .int x1), (2, .ref a2), (3, .int x3), (4, .int x4), (5, .int x5), (6, .ref a6), (7, .int x7), (8, .int x8), (9, .int x9)] [] (r163 a0 x1 a2 x3 x4 x5 a6 x7 x8 x9 s0) s0) : ∀ (a0 : Nat) (x1 : Int32) (a2 : Nat) (x3 : Int32) (x4 : Int32) (x5 : Int32) (a6 : Nat) (x7 : Int32) (x8 : Int32) (x9 : Int32) (x10 : Int32) (s0 : AS), OK Γ 299 [(0, .ref a0), (1, .int x1), (2, .ref a2), (3, .int x3), (4, .int x4), (5, .int x5), (6, .ref a6), (7, .int x7), (8, .int x8), (9, .int x9), (10, .int x10)] [] (fX19_fills_299 r41 r141 r152 r163 a0 x1 a2 x3 x4 x5 a6 x7 x8 x9 x10 s0) s0 := by
  intro a0 x1 a2 x3 x4 x5 a6 x7 x8 x9 x10 s0
  unfold fX19_fills_299
  refine ok_iload C 10 dX19_fills_299 rfl ?_
  refine ok_if_ne C 308 dX19_fills_301 (by decide) ?_ ?_
  · refine ok_iconst C (v := (-1)) dX19_fills_308 (by decide) ?_
    refine OK.sub (lv' := [(0, .ref a0), (1, .int x1), (2, .ref a2), (3, .int x3), (4, .int x4), (5, .int x5), (6, .ref a6), (7, .int x7), (8, .int x8), (9, .int x9)]) [0, 1, 2, 3, 4, 5, 6, 7, 8, 9] rfl ?_
    exact oX19_fills_309 C T hn hR hin h41 h141 h152 h163 a0 x1 a2 x3 x4 x5 a6 x7 x8 x9 ((-1)) s0
  · refine ok_iconst C (v := 0) dX19_fills_304 (by decide) ?_
    refine ok_goto C 309 dX19_fills_305 (by decide) ?_
    refine OK.sub (lv' := [(0, .ref a0), (1, .int x1), (2, .ref a2), (3, .int x3), (4, .int x4), (5, .int x5), (6, .ref a6), (7, .int x7), (8, .int x8), (9, .int x9)]) [0, 1, 2, 3, 4, 5, 6, 7, 8, 9] rfl ?_
    exact oX19_fills_309 C T hn hR hin h41 h141 h152 h163 a0 x1 a2 x3 x4 x5 a6 x7 x8 x9 0 s0
set_option maxHeartbeats 4000000 in
theorem oX19_fills_249 {Γ : CX} (C : OKC Γ cX19_fills RX19 (some (.object "ChaseLockerLaw$Filling"))) (T : ∀ z ∈ (cx_c Γ).exceptionTable.toList, False) (hn : cx_nL Γ = 12) (hR : cx_fr Γ = 3 ∧ cx_lo Γ = 106) (hin : (cx_meth Γ).name = yX19_fills.name) {r41 : Nat → Int32 → Nat → Int32 → Int32 → AS → Option AR} {r141 : Nat → Int32 → Nat → Int32 → Int32 → Int32 → Nat → Int32 → AS → Option AR} {r152 : Nat → Int32 → Nat → Int32 → Int32 → Int32 → Nat → Int32 → Int32 → AS → Option AR} {r163 : Nat → Int32 → Nat → Int32 → Int32 → Int32 → Nat → Int32 → Int32 → Int32 → AS → Option AR} (h41 : ∀ (a0 : Nat) (x1 : Int32) (a2 : Nat) (x3 : Int32) (x4 : Int32) (s0 : AS), OK Γ 41 [(0, .ref a0), (1, .int x1), (2, .ref a2), (3, .int x3), (4, .int x4)] [] (r41 a0 x1 a2 x3 x4 s0) s0) (h141 : ∀ (a0 : Nat) (x1 : Int32) (a2 : Nat) (x3 : Int32) (x4 : Int32) (x5 : Int32) (a6 : Nat) (x7 : Int32) (s0 : AS), OK Γ 141 [(0, .ref a0), (1, .int x1), (2, .ref a2), (3, .int x3), (4, .int x4), (5, .int x5), (6, .ref a6), (7, .int x7)] [] (r141 a0 x1 a2 x3 x4 x5 a6 x7 s0) s0) (h152 : ∀ (a0 : Nat) (x1 : Int32) (a2 : Nat) (x3 : Int32) (x4 : Int32) (x5 : Int32) (a6 : Nat) (x7 : Int32) (x8 : Int32) (s0 : AS), OK Γ 152 [(0, .ref a0), (1, .int x1), (2, .ref a2), (3, .int x3), (4, .int x4), (5, .int x5), (6, .ref a6), (7, .int x7), (8, .int x8)] [] (r152 a0 x1 a2 x3 x4 x5 a6 x7 x8 s0) s0) (h163 : ∀ (a0 : Nat) (x1 : Int32) (a2 : Nat) (x3 : Int32) (x4 : Int32) (x5 : Int32) (a6 : Nat) (x7 : Int32) (x8 : Int32) (x9 : Int32) (s0 : AS), OK Γ 163 [(0, .ref a0), (1, .int x1), (2, .ref a2), (3, .int x3), (4, .int x4), (5, .int x5), (6, .ref a6), (7, .int x7), (8, .int x8), (9, .int x9)] [] (r163 a0 x1 a2 x3 x4 x5 a6 x7 x8 x9 s0) s0) : ∀ (a0 : Nat) (x1 : Int32) (a2 : Nat) (x3 : Int32) (x4 : Int32) (x5 : Int32) (a6 : Nat) (x7 : Int32) (x8 : Int32) (x9 : Int32) (t0 : Int32) (t1 : Int32) (s0 : AS), OK Γ 249 [(0, .ref a0), (1, .int x1), (2, .ref a2), (3, .int x3), (4, .int x4), (5, .int x5), (6, .ref a6), (7, .int x7), (8, .int x8), (9, .int x9)] [.int t1, .int t0] (fX19_fills_249 r41 r141 r152 r163 a0 x1 a2 x3 x4 x5 a6 x7 x8 x9 t0 t1 s0) s0 := by
  intro a0 x1 a2 x3 x4 x5 a6 x7 x8 x9 t0 t1 s0
  unfold fX19_fills_249
  refine ok_isub C dX19_fills_249 ?_
  refine ok_lt (fun v1 => ?_)
  refine ok_istore C (i := 10) [(10, .int v1), (0, .ref a0), (1, .int x1), (2, .ref a2), (3, .int x3), (4, .int x4), (5, .int x5), (6, .ref a6), (7, .int x7), (8, .int x8), (9, .int x9)] dX19_fills_250 (by rw [hn]; decide) rfl ?_
  refine ok_aload_n C 1 dX19_fills_252 rfl ?_
  refine ok_getI C frX19_89_13 dX19_fills_253 (fun v2 => ?_)
  refine ok_iconst C (v := 3) dX19_fills_256 (by decide) ?_
  refine ok_icmp_le C 299 dX19_fills_257 (by decide) ?_ ?_
  · refine OK.sub (lv' := [(0, .ref a0), (1, .int x1), (2, .ref a2), (3, .int x3), (4, .int x4), (5, .int x5), (6, .ref a6), (7, .int x7), (8, .int x8), (9, .int x9), (10, .int v1)]) [1, 2, 3, 4, 5, 6, 7, 8, 9, 10, 0] rfl ?_
    exact oX19_fills_299 C T hn hR hin h41 h141 h152 h163 a0 x1 a2 x3 x4 x5 a6 x7 x8 x9 v1 s0
  · refine ok_iload C 0 dX19_fills_260 rfl ?_
    refine ok_if_lt C 299 dX19_fills_262 (by decide) ?_ ?_
    · refine OK.sub (lv' := [(0, .ref a0), (1, .int x1), (2, .ref a2), (3, .int x3), (4, .int x4), (5, .int x5), (6, .ref a6), (7, .int x7), (8, .int x8), (9, .int x9), (10, .int v1)]) [1, 2, 3, 4, 5, 6, 7, 8, 9, 10, 0] rfl ?_
      exact oX19_fills_299 C T hn hR hin h41 h141 h152 h163 a0 x1 a2 x3 x4 x5 a6 x7 x8 x9 v1 s0
    · refine ok_iload C 0 dX19_fills_265 rfl ?_
      refine ok_aload_n C 1 dX19_fills_267 rfl ?_
      refine ok_getR C frX19_24_13 dX19_fills_268 (fun q3 => ?_)
      refine ok_aload_n C 1 dX19_fills_271 rfl ?_
      refine ok_getR C frX19_30_13 dX19_fills_272 (fun q4 => ?_)
      refine ok_iconst C (v := 3) dX19_fills_275 (by decide) ?_
      refine ok_iald C dX19_fills_276 (fun v5 => ?_)
      refine ok_iald C dX19_fills_277 (fun v6 => ?_)
      refine ok_irem C dX19_fills_278 ?_
      refine ok_if_ne C 299 dX19_fills_279 (by decide) ?_ ?_
      · refine OK.sub (lv' := [(0, .ref a0), (1, .int x1), (2, .ref a2), (3, .int x3), (4, .int x4), (5, .int x5), (6, .ref a6), (7, .int x7), (8, .int x8), (9, .int x9), (10, .int v1)]) [1, 2, 3, 4, 5, 6, 7, 8, 9, 10, 0] rfl ?_
        exact oX19_fills_299 C T hn hR hin h41 h141 h152 h163 a0 x1 a2 x3 x4 x5 a6 x7 x8 x9 v1 s0
      · refine ok_iload C 0 dX19_fills_282 rfl ?_
        refine ok_aload_n C 1 dX19_fills_284 rfl ?_
        refine ok_getR C frX19_24_13 dX19_fills_285 (fun q7 => ?_)
        refine ok_aload_n C 1 dX19_fills_288 rfl ?_
        refine ok_getR C frX19_30_13 dX19_fills_289 (fun q8 => ?_)
        refine ok_iconst C (v := 3) dX19_fills_292 (by decide) ?_
        refine ok_iald C dX19_fills_293 (fun v9 => ?_)
        refine ok_iald C dX19_fills_294 (fun v10 => ?_)
        refine ok_idiv C dX19_fills_295 ?_
        refine ok_goto C 309 dX19_fills_296 (by decide) ?_
        refine OK.sub (lv' := [(0, .ref a0), (1, .int x1), (2, .ref a2), (3, .int x3), (4, .int x4), (5, .int x5), (6, .ref a6), (7, .int x7), (8, .int x8), (9, .int x9)]) [1, 2, 3, 4, 5, 6, 7, 8, 9, 10] rfl ?_
        exact oX19_fills_309 C T hn hR hin h41 h141 h152 h163 a0 x1 a2 x3 x4 x5 a6 x7 x8 x9 (v1 / v10) s0
set_option maxHeartbeats 4000000 in
theorem oX19_fills_222 {Γ : CX} (C : OKC Γ cX19_fills RX19 (some (.object "ChaseLockerLaw$Filling"))) (T : ∀ z ∈ (cx_c Γ).exceptionTable.toList, False) (hn : cx_nL Γ = 12) (hR : cx_fr Γ = 3 ∧ cx_lo Γ = 106) (hin : (cx_meth Γ).name = yX19_fills.name) {r41 : Nat → Int32 → Nat → Int32 → Int32 → AS → Option AR} {r141 : Nat → Int32 → Nat → Int32 → Int32 → Int32 → Nat → Int32 → AS → Option AR} {r152 : Nat → Int32 → Nat → Int32 → Int32 → Int32 → Nat → Int32 → Int32 → AS → Option AR} {r163 : Nat → Int32 → Nat → Int32 → Int32 → Int32 → Nat → Int32 → Int32 → Int32 → AS → Option AR} (h41 : ∀ (a0 : Nat) (x1 : Int32) (a2 : Nat) (x3 : Int32) (x4 : Int32) (s0 : AS), OK Γ 41 [(0, .ref a0), (1, .int x1), (2, .ref a2), (3, .int x3), (4, .int x4)] [] (r41 a0 x1 a2 x3 x4 s0) s0) (h141 : ∀ (a0 : Nat) (x1 : Int32) (a2 : Nat) (x3 : Int32) (x4 : Int32) (x5 : Int32) (a6 : Nat) (x7 : Int32) (s0 : AS), OK Γ 141 [(0, .ref a0), (1, .int x1), (2, .ref a2), (3, .int x3), (4, .int x4), (5, .int x5), (6, .ref a6), (7, .int x7)] [] (r141 a0 x1 a2 x3 x4 x5 a6 x7 s0) s0) (h152 : ∀ (a0 : Nat) (x1 : Int32) (a2 : Nat) (x3 : Int32) (x4 : Int32) (x5 : Int32) (a6 : Nat) (x7 : Int32) (x8 : Int32) (s0 : AS), OK Γ 152 [(0, .ref a0), (1, .int x1), (2, .ref a2), (3, .int x3), (4, .int x4), (5, .int x5), (6, .ref a6), (7, .int x7), (8, .int x8)] [] (r152 a0 x1 a2 x3 x4 x5 a6 x7 x8 s0) s0) (h163 : ∀ (a0 : Nat) (x1 : Int32) (a2 : Nat) (x3 : Int32) (x4 : Int32) (x5 : Int32) (a6 : Nat) (x7 : Int32) (x8 : Int32) (x9 : Int32) (s0 : AS), OK Γ 163 [(0, .ref a0), (1, .int x1), (2, .ref a2), (3, .int x3), (4, .int x4), (5, .int x5), (6, .ref a6), (7, .int x7), (8, .int x8), (9, .int x9)] [] (r163 a0 x1 a2 x3 x4 x5 a6 x7 x8 x9 s0) s0) : ∀ (a0 : Nat) (x1 : Int32) (a2 : Nat) (x3 : Int32) (x4 : Int32) (x5 : Int32) (a6 : Nat) (x7 : Int32) (x8 : Int32) (x9 : Int32) (t0 : Int32) (t1 : Int32) (s0 : AS), OK Γ 222 [(0, .ref a0), (1, .int x1), (2, .ref a2), (3, .int x3), (4, .int x4), (5, .int x5), (6, .ref a6), (7, .int x7), (8, .int x8), (9, .int x9)] [.int t1, .int t0] (fX19_fills_222 r41 r141 r152 r163 a0 x1 a2 x3 x4 x5 a6 x7 x8 x9 t0 t1 s0) s0 := by
  intro a0 x1 a2 x3 x4 x5 a6 x7 x8 x9 t0 t1 s0
  unfold fX19_fills_222
  refine ok_isub C dX19_fills_222 ?_
  refine ok_aload_n C 0 dX19_fills_223 rfl ?_
  refine ok_getI C frX19_89_13 dX19_fills_224 (fun v1 => ?_)
  refine ok_iconst C (v := 2) dX19_fills_227 (by decide) ?_
  refine ok_icmp_le C 248 dX19_fills_228 (by decide) ?_ ?_
  · refine ok_iconst C (v := 0) dX19_fills_248 (by decide) ?_
    exact oX19_fills_249 C T hn hR hin h41 h141 h152 h163 a0 x1 a2 x3 x4 x5 a6 x7 x8 x9 (t0 - t1) 0 s0
  · refine ok_iload C 9 dX19_fills_231 rfl ?_
    refine ok_aload_n C 0 dX19_fills_233 rfl ?_
    refine ok_getR C frX19_24_13 dX19_fills_234 (fun q2 => ?_)
    refine ok_aload_n C 0 dX19_fills_237 rfl ?_
    refine ok_getR C frX19_30_13 dX19_fills_238 (fun q3 => ?_)
    refine ok_iconst C (v := 2) dX19_fills_241 (by decide) ?_
    refine ok_iald C dX19_fills_242 (fun v4 => ?_)
    refine ok_iald C dX19_fills_243 (fun v5 => ?_)
    refine ok_imul C dX19_fills_244 ?_
    refine ok_goto C 249 dX19_fills_245 (by decide) ?_
    exact oX19_fills_249 C T hn hR hin h41 h141 h152 h163 a0 x1 a2 x3 x4 x5 a6 x7 x8 x9 (t0 - t1) (x9 * v5) s0
set_option maxHeartbeats 4000000 in
theorem oX19_fills_195 {Γ : CX} (C : OKC Γ cX19_fills RX19 (some (.object "ChaseLockerLaw$Filling"))) (T : ∀ z ∈ (cx_c Γ).exceptionTable.toList, False) (hn : cx_nL Γ = 12) (hR : cx_fr Γ = 3 ∧ cx_lo Γ = 106) (hin : (cx_meth Γ).name = yX19_fills.name) {r41 : Nat → Int32 → Nat → Int32 → Int32 → AS → Option AR} {r141 : Nat → Int32 → Nat → Int32 → Int32 → Int32 → Nat → Int32 → AS → Option AR} {r152 : Nat → Int32 → Nat → Int32 → Int32 → Int32 → Nat → Int32 → Int32 → AS → Option AR} {r163 : Nat → Int32 → Nat → Int32 → Int32 → Int32 → Nat → Int32 → Int32 → Int32 → AS → Option AR} (h41 : ∀ (a0 : Nat) (x1 : Int32) (a2 : Nat) (x3 : Int32) (x4 : Int32) (s0 : AS), OK Γ 41 [(0, .ref a0), (1, .int x1), (2, .ref a2), (3, .int x3), (4, .int x4)] [] (r41 a0 x1 a2 x3 x4 s0) s0) (h141 : ∀ (a0 : Nat) (x1 : Int32) (a2 : Nat) (x3 : Int32) (x4 : Int32) (x5 : Int32) (a6 : Nat) (x7 : Int32) (s0 : AS), OK Γ 141 [(0, .ref a0), (1, .int x1), (2, .ref a2), (3, .int x3), (4, .int x4), (5, .int x5), (6, .ref a6), (7, .int x7)] [] (r141 a0 x1 a2 x3 x4 x5 a6 x7 s0) s0) (h152 : ∀ (a0 : Nat) (x1 : Int32) (a2 : Nat) (x3 : Int32) (x4 : Int32) (x5 : Int32) (a6 : Nat) (x7 : Int32) (x8 : Int32) (s0 : AS), OK Γ 152 [(0, .ref a0), (1, .int x1), (2, .ref a2), (3, .int x3), (4, .int x4), (5, .int x5), (6, .ref a6), (7, .int x7), (8, .int x8)] [] (r152 a0 x1 a2 x3 x4 x5 a6 x7 x8 s0) s0) (h163 : ∀ (a0 : Nat) (x1 : Int32) (a2 : Nat) (x3 : Int32) (x4 : Int32) (x5 : Int32) (a6 : Nat) (x7 : Int32) (x8 : Int32) (x9 : Int32) (s0 : AS), OK Γ 163 [(0, .ref a0), (1, .int x1), (2, .ref a2), (3, .int x3), (4, .int x4), (5, .int x5), (6, .ref a6), (7, .int x7), (8, .int x8), (9, .int x9)] [] (r163 a0 x1 a2 x3 x4 x5 a6 x7 x8 x9 s0) s0) : ∀ (a0 : Nat) (x1 : Int32) (a2 : Nat) (x3 : Int32) (x4 : Int32) (x5 : Int32) (a6 : Nat) (x7 : Int32) (x8 : Int32) (x9 : Int32) (t0 : Int32) (t1 : Int32) (s0 : AS), OK Γ 195 [(0, .ref a0), (1, .int x1), (2, .ref a2), (3, .int x3), (4, .int x4), (5, .int x5), (6, .ref a6), (7, .int x7), (8, .int x8), (9, .int x9)] [.int t1, .int t0] (fX19_fills_195 r41 r141 r152 r163 a0 x1 a2 x3 x4 x5 a6 x7 x8 x9 t0 t1 s0) s0 := by
  intro a0 x1 a2 x3 x4 x5 a6 x7 x8 x9 t0 t1 s0
  unfold fX19_fills_195
  refine ok_isub C dX19_fills_195 ?_
  refine ok_aload_n C 0 dX19_fills_196 rfl ?_
  refine ok_getI C frX19_89_13 dX19_fills_197 (fun v1 => ?_)
  refine ok_iconst C (v := 1) dX19_fills_200 (by decide) ?_
  refine ok_icmp_le C 221 dX19_fills_201 (by decide) ?_ ?_
  · refine ok_iconst C (v := 0) dX19_fills_221 (by decide) ?_
    exact oX19_fills_222 C T hn hR hin h41 h141 h152 h163 a0 x1 a2 x3 x4 x5 a6 x7 x8 x9 (t0 - t1) 0 s0
  · refine ok_iload C 8 dX19_fills_204 rfl ?_
    refine ok_aload_n C 0 dX19_fills_206 rfl ?_
    refine ok_getR C frX19_24_13 dX19_fills_207 (fun q2 => ?_)
    refine ok_aload_n C 0 dX19_fills_210 rfl ?_
    refine ok_getR C frX19_30_13 dX19_fills_211 (fun q3 => ?_)
    refine ok_iconst C (v := 1) dX19_fills_214 (by decide) ?_
    refine ok_iald C dX19_fills_215 (fun v4 => ?_)
    refine ok_iald C dX19_fills_216 (fun v5 => ?_)
    refine ok_imul C dX19_fills_217 ?_
    refine ok_goto C 222 dX19_fills_218 (by decide) ?_
    exact oX19_fills_222 C T hn hR hin h41 h141 h152 h163 a0 x1 a2 x3 x4 x5 a6 x7 x8 x9 (t0 - t1) (x8 * v5) s0
set_option maxHeartbeats 4000000 in
theorem oX19_fills_163 {Γ : CX} (C : OKC Γ cX19_fills RX19 (some (.object "ChaseLockerLaw$Filling"))) (T : ∀ z ∈ (cx_c Γ).exceptionTable.toList, False) (hn : cx_nL Γ = 12) (hR : cx_fr Γ = 3 ∧ cx_lo Γ = 106) (hin : (cx_meth Γ).name = yX19_fills.name) {r41 : Nat → Int32 → Nat → Int32 → Int32 → AS → Option AR} {r141 : Nat → Int32 → Nat → Int32 → Int32 → Int32 → Nat → Int32 → AS → Option AR} {r152 : Nat → Int32 → Nat → Int32 → Int32 → Int32 → Nat → Int32 → Int32 → AS → Option AR} (h41 : ∀ (a0 : Nat) (x1 : Int32) (a2 : Nat) (x3 : Int32) (x4 : Int32) (s0 : AS), OK Γ 41 [(0, .ref a0), (1, .int x1), (2, .ref a2), (3, .int x3), (4, .int x4)] [] (r41 a0 x1 a2 x3 x4 s0) s0) (h141 : ∀ (a0 : Nat) (x1 : Int32) (a2 : Nat) (x3 : Int32) (x4 : Int32) (x5 : Int32) (a6 : Nat) (x7 : Int32) (s0 : AS), OK Γ 141 [(0, .ref a0), (1, .int x1), (2, .ref a2), (3, .int x3), (4, .int x4), (5, .int x5), (6, .ref a6), (7, .int x7)] [] (r141 a0 x1 a2 x3 x4 x5 a6 x7 s0) s0) (h152 : ∀ (a0 : Nat) (x1 : Int32) (a2 : Nat) (x3 : Int32) (x4 : Int32) (x5 : Int32) (a6 : Nat) (x7 : Int32) (x8 : Int32) (s0 : AS), OK Γ 152 [(0, .ref a0), (1, .int x1), (2, .ref a2), (3, .int x3), (4, .int x4), (5, .int x5), (6, .ref a6), (7, .int x7), (8, .int x8)] [] (r152 a0 x1 a2 x3 x4 x5 a6 x7 x8 s0) s0) : ∀ (n : Nat) (a0 : Nat) (x1 : Int32) (a2 : Nat) (x3 : Int32) (x4 : Int32) (x5 : Int32) (a6 : Nat) (x7 : Int32) (x8 : Int32) (x9 : Int32) (s0 : AS), OK Γ 163 [(0, .ref a0), (1, .int x1), (2, .ref a2), (3, .int x3), (4, .int x4), (5, .int x5), (6, .ref a6), (7, .int x7), (8, .int x8), (9, .int x9)] [] (fX19_fills_163 r41 r141 r152 n a0 x1 a2 x3 x4 x5 a6 x7 x8 x9 s0) s0 := by
  intro n
  induction n with
  | zero => intro _ _ _ _ _ _ _ _ _ _ s0; exact OK.none
  | succ n ih =>
    intro a0 x1 a2 x3 x4 x5 a6 x7 x8 x9 s0
    rw [fX19_fills_163]
    refine ok_iload C 9 dX19_fills_163 rfl ?_
    refine ok_if_lt C 418 dX19_fills_165 (by decide) ?_ ?_
    · refine OK.sub (lv' := [(0, .ref a0), (1, .int x1), (2, .ref a2), (3, .int x3), (4, .int x4), (5, .int x5), (6, .ref a6), (7, .int x7), (8, .int x8)]) [0, 1, 2, 3, 4, 5, 6, 7, 8] rfl ?_
      exact oX19_fills_418 C T hn hR hin h41 h141 h152 a0 x1 a2 x3 x4 x5 a6 x7 x8 s0
    · refine ok_iload C 5 dX19_fills_168 rfl ?_
      refine ok_aload_n C 0 dX19_fills_170 rfl ?_
      refine ok_getI C frX19_89_13 dX19_fills_171 (fun v1 => ?_)
      refine ok_if_le C 194 dX19_fills_174 (by decide) ?_ ?_
      · refine ok_iconst C (v := 0) dX19_fills_194 (by decide) ?_
        exact oX19_fills_195 C T hn hR hin h41 h141 h152 ih a0 x1 a2 x3 x4 x5 a6 x7 x8 x9 x5 0 s0
      · refine ok_iload C 7 dX19_fills_177 rfl ?_
        refine ok_aload_n C 0 dX19_fills_179 rfl ?_
        refine ok_getR C frX19_24_13 dX19_fills_180 (fun q2 => ?_)
        refine ok_aload_n C 0 dX19_fills_183 rfl ?_
        refine ok_getR C frX19_30_13 dX19_fills_184 (fun q3 => ?_)
        refine ok_iconst C (v := 0) dX19_fills_187 (by decide) ?_
        refine ok_iald C dX19_fills_188 (fun v4 => ?_)
        refine ok_iald C dX19_fills_189 (fun v5 => ?_)
        refine ok_imul C dX19_fills_190 ?_
        refine ok_goto C 195 dX19_fills_191 (by decide) ?_
        exact oX19_fills_195 C T hn hR hin h41 h141 h152 ih a0 x1 a2 x3 x4 x5 a6 x7 x8 x9 x5 (x7 * v5) s0
set_option maxHeartbeats 4000000 in
theorem oX19_fills_152 {Γ : CX} (C : OKC Γ cX19_fills RX19 (some (.object "ChaseLockerLaw$Filling"))) (T : ∀ z ∈ (cx_c Γ).exceptionTable.toList, False) (hn : cx_nL Γ = 12) (hR : cx_fr Γ = 3 ∧ cx_lo Γ = 106) (hin : (cx_meth Γ).name = yX19_fills.name) {r41 : Nat → Int32 → Nat → Int32 → Int32 → AS → Option AR} {r141 : Nat → Int32 → Nat → Int32 → Int32 → Int32 → Nat → Int32 → AS → Option AR} (h41 : ∀ (a0 : Nat) (x1 : Int32) (a2 : Nat) (x3 : Int32) (x4 : Int32) (s0 : AS), OK Γ 41 [(0, .ref a0), (1, .int x1), (2, .ref a2), (3, .int x3), (4, .int x4)] [] (r41 a0 x1 a2 x3 x4 s0) s0) (h141 : ∀ (a0 : Nat) (x1 : Int32) (a2 : Nat) (x3 : Int32) (x4 : Int32) (x5 : Int32) (a6 : Nat) (x7 : Int32) (s0 : AS), OK Γ 141 [(0, .ref a0), (1, .int x1), (2, .ref a2), (3, .int x3), (4, .int x4), (5, .int x5), (6, .ref a6), (7, .int x7)] [] (r141 a0 x1 a2 x3 x4 x5 a6 x7 s0) s0) : ∀ (n : Nat) (a0 : Nat) (x1 : Int32) (a2 : Nat) (x3 : Int32) (x4 : Int32) (x5 : Int32) (a6 : Nat) (x7 : Int32) (x8 : Int32) (s0 : AS), OK Γ 152 [(0, .ref a0), (1, .int x1), (2, .ref a2), (3, .int x3), (4, .int x4), (5, .int x5), (6, .ref a6), (7, .int x7), (8, .int x8)] [] (fX19_fills_152 r41 r141 n a0 x1 a2 x3 x4 x5 a6 x7 x8 s0) s0 := by
  intro n
  induction n with
  | zero => intro _ _ _ _ _ _ _ _ _ s0; exact OK.none
  | succ n ih =>
    intro a0 x1 a2 x3 x4 x5 a6 x7 x8 s0
    rw [fX19_fills_152]
    refine ok_iload C 8 dX19_fills_152 rfl ?_
    refine ok_if_lt C 424 dX19_fills_154 (by decide) ?_ ?_
    · refine OK.sub (lv' := [(0, .ref a0), (1, .int x1), (2, .ref a2), (3, .int x3), (4, .int x4), (5, .int x5), (6, .ref a6), (7, .int x7)]) [0, 1, 2, 3, 4, 5, 6, 7] rfl ?_
      exact oX19_fills_424 C T hn hR hin h41 h141 a0 x1 a2 x3 x4 x5 a6 x7 s0
    · refine ok_aload C 6 dX19_fills_157 rfl ?_
      refine ok_iconst C (v := 2) dX19_fills_159 (by decide) ?_
      refine ok_iald C dX19_fills_160 (fun v1 => ?_)
      refine ok_istore C (i := 9) [(9, .int v1), (0, .ref a0), (1, .int x1), (2, .ref a2), (3, .int x3), (4, .int x4), (5, .int x5), (6, .ref a6), (7, .int x7), (8, .int x8)] dX19_fills_161 (by rw [hn]; decide) rfl ?_
      refine OK.sub (lv' := [(0, .ref a0), (1, .int x1), (2, .ref a2), (3, .int x3), (4, .int x4), (5, .int x5), (6, .ref a6), (7, .int x7), (8, .int x8), (9, .int v1)]) [1, 2, 3, 4, 5, 6, 7, 8, 9, 0] rfl ?_
      exact oX19_fills_163 C T hn hR hin h41 h141 ih FU a0 x1 a2 x3 x4 x5 a6 x7 x8 v1 s0
set_option maxHeartbeats 4000000 in
theorem oX19_fills_141 {Γ : CX} (C : OKC Γ cX19_fills RX19 (some (.object "ChaseLockerLaw$Filling"))) (T : ∀ z ∈ (cx_c Γ).exceptionTable.toList, False) (hn : cx_nL Γ = 12) (hR : cx_fr Γ = 3 ∧ cx_lo Γ = 106) (hin : (cx_meth Γ).name = yX19_fills.name) {r41 : Nat → Int32 → Nat → Int32 → Int32 → AS → Option AR} (h41 : ∀ (a0 : Nat) (x1 : Int32) (a2 : Nat) (x3 : Int32) (x4 : Int32) (s0 : AS), OK Γ 41 [(0, .ref a0), (1, .int x1), (2, .ref a2), (3, .int x3), (4, .int x4)] [] (r41 a0 x1 a2 x3 x4 s0) s0) : ∀ (n : Nat) (a0 : Nat) (x1 : Int32) (a2 : Nat) (x3 : Int32) (x4 : Int32) (x5 : Int32) (a6 : Nat) (x7 : Int32) (s0 : AS), OK Γ 141 [(0, .ref a0), (1, .int x1), (2, .ref a2), (3, .int x3), (4, .int x4), (5, .int x5), (6, .ref a6), (7, .int x7)] [] (fX19_fills_141 r41 n a0 x1 a2 x3 x4 x5 a6 x7 s0) s0 := by
  intro n
  induction n with
  | zero => intro _ _ _ _ _ _ _ _ s0; exact OK.none
  | succ n ih =>
    intro a0 x1 a2 x3 x4 x5 a6 x7 s0
    rw [fX19_fills_141]
    refine ok_iload C 7 dX19_fills_141 rfl ?_
    refine ok_if_lt C 430 dX19_fills_143 (by decide) ?_ ?_
    · refine OK.sub (lv' := [(0, .ref a0), (1, .int x1), (2, .ref a2), (3, .int x3), (4, .int x4)]) [0, 1, 2, 3, 4] rfl ?_
      exact oX19_fills_430 C T hn hR hin h41 a0 x1 a2 x3 x4 s0
    · refine ok_aload C 6 dX19_fills_146 rfl ?_
      refine ok_iconst C (v := 1) dX19_fills_148 (by decide) ?_
      refine ok_iald C dX19_fills_149 (fun v1 => ?_)
      refine ok_istore C (i := 8) [(8, .int v1), (0, .ref a0), (1, .int x1), (2, .ref a2), (3, .int x3), (4, .int x4), (5, .int x5), (6, .ref a6), (7, .int x7)] dX19_fills_150 (by rw [hn]; decide) rfl ?_
      refine OK.sub (lv' := [(0, .ref a0), (1, .int x1), (2, .ref a2), (3, .int x3), (4, .int x4), (5, .int x5), (6, .ref a6), (7, .int x7), (8, .int v1)]) [1, 2, 3, 4, 5, 6, 7, 8, 0] rfl ?_
      exact oX19_fills_152 C T hn hR hin h41 ih FU a0 x1 a2 x3 x4 x5 a6 x7 v1 s0
set_option maxHeartbeats 4000000 in
theorem oX19_fills_135 {Γ : CX} (C : OKC Γ cX19_fills RX19 (some (.object "ChaseLockerLaw$Filling"))) (T : ∀ z ∈ (cx_c Γ).exceptionTable.toList, False) (hn : cx_nL Γ = 12) (hR : cx_fr Γ = 3 ∧ cx_lo Γ = 106) (hin : (cx_meth Γ).name = yX19_fills.name) {r41 : Nat → Int32 → Nat → Int32 → Int32 → AS → Option AR} (h41 : ∀ (a0 : Nat) (x1 : Int32) (a2 : Nat) (x3 : Int32) (x4 : Int32) (s0 : AS), OK Γ 41 [(0, .ref a0), (1, .int x1), (2, .ref a2), (3, .int x3), (4, .int x4)] [] (r41 a0 x1 a2 x3 x4 s0) s0) : ∀ (a0 : Nat) (x1 : Int32) (a2 : Nat) (x3 : Int32) (x4 : Int32) (x5 : Int32) (a6 : Nat) (s0 : AS), OK Γ 135 [(0, .ref a0), (1, .int x1), (2, .ref a2), (3, .int x3), (4, .int x4), (5, .int x5), (6, .ref a6)] [] (fX19_fills_135 r41 a0 x1 a2 x3 x4 x5 a6 s0) s0 := by
  intro a0 x1 a2 x3 x4 x5 a6 s0
  unfold fX19_fills_135
  refine ok_aload C 6 dX19_fills_135 rfl ?_
  refine ok_iconst C (v := 0) dX19_fills_137 (by decide) ?_
  refine ok_iald C dX19_fills_138 (fun v1 => ?_)
  refine ok_istore C (i := 7) [(7, .int v1), (0, .ref a0), (1, .int x1), (2, .ref a2), (3, .int x3), (4, .int x4), (5, .int x5), (6, .ref a6)] dX19_fills_139 (by rw [hn]; decide) rfl ?_
  refine OK.sub (lv' := [(0, .ref a0), (1, .int x1), (2, .ref a2), (3, .int x3), (4, .int x4), (5, .int x5), (6, .ref a6), (7, .int v1)]) [1, 2, 3, 4, 5, 6, 7, 0] rfl ?_
  exact oX19_fills_141 C T hn hR hin h41 FU a0 x1 a2 x3 x4 x5 a6 v1 s0
set_option maxHeartbeats 4000000 in
theorem oX19_fills_128 {Γ : CX} (C : OKC Γ cX19_fills RX19 (some (.object "ChaseLockerLaw$Filling"))) (T : ∀ z ∈ (cx_c Γ).exceptionTable.toList, False) (hn : cx_nL Γ = 12) (hR : cx_fr Γ = 3 ∧ cx_lo Γ = 106) (hin : (cx_meth Γ).name = yX19_fills.name) {r41 : Nat → Int32 → Nat → Int32 → Int32 → AS → Option AR} {r93 : Nat → Int32 → Nat → Int32 → Int32 → Int32 → Nat → Int32 → AS → Option AR} (h41 : ∀ (a0 : Nat) (x1 : Int32) (a2 : Nat) (x3 : Int32) (x4 : Int32) (s0 : AS), OK Γ 41 [(0, .ref a0), (1, .int x1), (2, .ref a2), (3, .int x3), (4, .int x4)] [] (r41 a0 x1 a2 x3 x4 s0) s0) (h93 : ∀ (a0 : Nat) (x1 : Int32) (a2 : Nat) (x3 : Int32) (x4 : Int32) (x5 : Int32) (a6 : Nat) (x7 : Int32) (s0 : AS), OK Γ 93 [(0, .ref a0), (1, .int x1), (2, .ref a2), (3, .int x3), (4, .int x4), (5, .int x5), (6, .ref a6), (7, .int x7)] [] (r93 a0 x1 a2 x3 x4 x5 a6 x7 s0) s0) : ∀ (a0 : Nat) (x1 : Int32) (a2 : Nat) (x3 : Int32) (x4 : Int32) (x5 : Int32) (a6 : Nat) (x7 : Int32) (t0 : Nat) (t1 : Int32) (t2 : Int32) (s0 : AS), OK Γ 128 [(0, .ref a0), (1, .int x1), (2, .ref a2), (3, .int x3), (4, .int x4), (5, .int x5), (6, .ref a6), (7, .int x7)] [.int t2, .int t1, .ref t0] (fX19_fills_128 r41 r93 a0 x1 a2 x3 x4 x5 a6 x7 t0 t1 t2 s0) s0 := by
  intro a0 x1 a2 x3 x4 x5 a6 x7 t0 t1 t2 s0
  unfold fX19_fills_128
  refine ok_iast C dX19_fills_128 (fun s1 _ => ?_)
  refine ok_iincL C 7 (c := 1) (fun v2 => [(7, .int v2), (0, .ref a0), (1, .int x1), (2, .ref a2), (3, .int x3), (4, .int x4), (5, .int x5), (6, .ref a6)]) dX19_fills_129 rfl rfl (by rw [hn]; decide) (fun _ => rfl) (fun v2 => ?_)
  refine ok_goto C 93 dX19_fills_132 (by decide) ?_
  refine OK.sub (lv' := [(0, .ref a0), (1, .int x1), (2, .ref a2), (3, .int x3), (4, .int x4), (5, .int x5), (6, .ref a6), (7, .int v2)]) [1, 2, 3, 4, 5, 6, 7, 0] rfl ?_
  exact h93 a0 x1 a2 x3 x4 x5 a6 v2 s1
set_option maxHeartbeats 4000000 in
theorem oX19_fills_93 {Γ : CX} (C : OKC Γ cX19_fills RX19 (some (.object "ChaseLockerLaw$Filling"))) (T : ∀ z ∈ (cx_c Γ).exceptionTable.toList, False) (hn : cx_nL Γ = 12) (hR : cx_fr Γ = 3 ∧ cx_lo Γ = 106) (hin : (cx_meth Γ).name = yX19_fills.name) {r41 : Nat → Int32 → Nat → Int32 → Int32 → AS → Option AR} (h41 : ∀ (a0 : Nat) (x1 : Int32) (a2 : Nat) (x3 : Int32) (x4 : Int32) (s0 : AS), OK Γ 41 [(0, .ref a0), (1, .int x1), (2, .ref a2), (3, .int x3), (4, .int x4)] [] (r41 a0 x1 a2 x3 x4 s0) s0) : ∀ (n : Nat) (a0 : Nat) (x1 : Int32) (a2 : Nat) (x3 : Int32) (x4 : Int32) (x5 : Int32) (a6 : Nat) (x7 : Int32) (s0 : AS), OK Γ 93 [(0, .ref a0), (1, .int x1), (2, .ref a2), (3, .int x3), (4, .int x4), (5, .int x5), (6, .ref a6), (7, .int x7)] [] (fX19_fills_93 r41 n a0 x1 a2 x3 x4 x5 a6 x7 s0) s0 := by
  intro n
  induction n with
  | zero => intro _ _ _ _ _ _ _ _ s0; exact OK.none
  | succ n ih =>
    intro a0 x1 a2 x3 x4 x5 a6 x7 s0
    rw [fX19_fills_93]
    refine ok_iload C 7 dX19_fills_93 rfl ?_
    refine ok_iconst C (v := 4) dX19_fills_95 (by decide) ?_
    refine ok_icmp_ge C 135 dX19_fills_96 (by decide) ?_ ?_
    · refine OK.sub (lv' := [(0, .ref a0), (1, .int x1), (2, .ref a2), (3, .int x3), (4, .int x4), (5, .int x5), (6, .ref a6)]) [0, 1, 2, 3, 4, 5, 6] rfl ?_
      exact oX19_fills_135 C T hn hR hin h41 a0 x1 a2 x3 x4 x5 a6 s0
    · refine ok_aload C 6 dX19_fills_99 rfl ?_
      refine ok_iload C 7 dX19_fills_101 rfl ?_
      refine ok_iload C 7 dX19_fills_103 rfl ?_
      refine ok_aload_n C 0 dX19_fills_105 rfl ?_
      refine ok_getI C frX19_89_13 dX19_fills_106 (fun v1 => ?_)
      refine ok_icmp_ge C 127 dX19_fills_109 (by decide) ?_ ?_
      · refine ok_iconst C (v := 0) dX19_fills_127 (by decide) ?_
        exact oX19_fills_128 C T hn hR hin h41 ih a0 x1 a2 x3 x4 x5 a6 x7 a6 x7 0 s0
      · refine ok_aload_n C 0 dX19_fills_112 rfl ?_
        refine ok_getR C frX19_27_13 dX19_fills_113 (fun q2 => ?_)
        refine ok_aload_n C 0 dX19_fills_116 rfl ?_
        refine ok_getR C frX19_30_13 dX19_fills_117 (fun q3 => ?_)
        refine ok_iload C 7 dX19_fills_120 rfl ?_
        refine ok_iald C dX19_fills_122 (fun v4 => ?_)
        refine ok_iald C dX19_fills_123 (fun v5 => ?_)
        refine ok_goto C 128 dX19_fills_124 (by decide) ?_
        exact oX19_fills_128 C T hn hR hin h41 ih a0 x1 a2 x3 x4 x5 a6 x7 a6 x7 v5 s0
set_option maxHeartbeats 4000000 in
theorem oX19_fills_82 {Γ : CX} (C : OKC Γ cX19_fills RX19 (some (.object "ChaseLockerLaw$Filling"))) (T : ∀ z ∈ (cx_c Γ).exceptionTable.toList, False) (hn : cx_nL Γ = 12) (hR : cx_fr Γ = 3 ∧ cx_lo Γ = 106) (hin : (cx_meth Γ).name = yX19_fills.name) {r41 : Nat → Int32 → Nat → Int32 → Int32 → AS → Option AR} (h41 : ∀ (a0 : Nat) (x1 : Int32) (a2 : Nat) (x3 : Int32) (x4 : Int32) (s0 : AS), OK Γ 41 [(0, .ref a0), (1, .int x1), (2, .ref a2), (3, .int x3), (4, .int x4)] [] (r41 a0 x1 a2 x3 x4 s0) s0) : ∀ (a0 : Nat) (x1 : Int32) (a2 : Nat) (x3 : Int32) (x4 : Int32) (t0 : Int32) (t1 : Int32) (s0 : AS), OK Γ 82 [(0, .ref a0), (1, .int x1), (2, .ref a2), (3, .int x3), (4, .int x4)] [.int t1, .int t0] (fX19_fills_82 r41 a0 x1 a2 x3 x4 t0 t1 s0) s0 := by
  intro a0 x1 a2 x3 x4 t0 t1 s0
  unfold fX19_fills_82
  refine ok_isub C dX19_fills_82 ?_
  refine ok_lt (fun v1 => ?_)
  refine ok_istore C (i := 5) [(5, .int v1), (0, .ref a0), (1, .int x1), (2, .ref a2), (3, .int x3), (4, .int x4)] dX19_fills_83 (by rw [hn]; decide) rfl ?_
  refine ok_iconst C (v := 4) dX19_fills_85 (by decide) ?_
  refine ok_newI C kw_136 dX19_fills_86 (fun q2 s3 => ?_)
  refine ok_astore C (i := 6) [(6, .ref q2), (5, .int v1), (0, .ref a0), (1, .int x1), (2, .ref a2), (3, .int x3), (4, .int x4)] dX19_fills_88 (by rw [hn]; decide) rfl ?_
  refine ok_iconst C (v := 0) dX19_fills_90 (by decide) ?_
  refine ok_istore C (i := 7) [(7, .int 0), (6, .ref q2), (5, .int v1), (0, .ref a0), (1, .int x1), (2, .ref a2), (3, .int x3), (4, .int x4)] dX19_fills_91 (by rw [hn]; decide) rfl ?_
  refine OK.sub (lv' := [(0, .ref a0), (1, .int x1), (2, .ref a2), (3, .int x3), (4, .int x4), (5, .int v1), (6, .ref q2), (7, .int 0)]) [3, 4, 5, 6, 7, 2, 1, 0] rfl ?_
  exact oX19_fills_93 C T hn hR hin h41 FU a0 x1 a2 x3 x4 v1 q2 0 s3
set_option maxHeartbeats 4000000 in
theorem oX19_fills_57 {Γ : CX} (C : OKC Γ cX19_fills RX19 (some (.object "ChaseLockerLaw$Filling"))) (T : ∀ z ∈ (cx_c Γ).exceptionTable.toList, False) (hn : cx_nL Γ = 12) (hR : cx_fr Γ = 3 ∧ cx_lo Γ = 106) (hin : (cx_meth Γ).name = yX19_fills.name) {r41 : Nat → Int32 → Nat → Int32 → Int32 → AS → Option AR} (h41 : ∀ (a0 : Nat) (x1 : Int32) (a2 : Nat) (x3 : Int32) (x4 : Int32) (s0 : AS), OK Γ 41 [(0, .ref a0), (1, .int x1), (2, .ref a2), (3, .int x3), (4, .int x4)] [] (r41 a0 x1 a2 x3 x4 s0) s0) : ∀ (a0 : Nat) (x1 : Int32) (a2 : Nat) (x3 : Int32) (x4 : Int32) (t0 : Int32) (t1 : Int32) (s0 : AS), OK Γ 57 [(0, .ref a0), (1, .int x1), (2, .ref a2), (3, .int x3), (4, .int x4)] [.int t1, .int t0] (fX19_fills_57 r41 a0 x1 a2 x3 x4 t0 t1 s0) s0 := by
  intro a0 x1 a2 x3 x4 t0 t1 s0
  unfold fX19_fills_57
  refine ok_icmp_gt C 436 dX19_fills_57 (by decide) ?_ ?_
  · refine ok_aload_n C 2 dX19_fills_436 rfl ?_
    exact ok_areturn C (by first | exact Or.inl ⟨_, rfl⟩ | exact Or.inr ⟨_, rfl⟩) dX19_fills_437
  · refine ok_aload_n C 0 dX19_fills_60 rfl ?_
    refine ok_iload_n C 1 dX19_fills_61 rfl ?_
    refine ok_callV C T [.int x1] (F := fX19_need a0 x1) (ctX19_need (C.2.2.2.2.2.2.2.2.1) a0 x1) vlX19_114 viX19_need rfl rfl (by decide) rfl (by rw [hR.1, hR.2]; decide) (Nat.le_of_ble_eq_true rfl) dX19_fills_62 (ok_qI fun v1 s2 => ?_)
    refine ok_iload_n C 3 dX19_fills_65 rfl ?_
    refine ok_if_eq C 81 dX19_fills_66 (by decide) ?_ ?_
    · refine ok_iconst C (v := 0) dX19_fills_81 (by decide) ?_
      exact oX19_fills_82 C T hn hR hin h41 a0 x1 a2 x3 x4 v1 0 s2
    · refine ok_aload_n C 0 dX19_fills_69 rfl ?_
      refine ok_getR C frX19_20_13 dX19_fills_70 (fun q3 => ?_)
      refine ok_iconst C (v := 2) dX19_fills_73 (by decide) ?_
      refine ok_iald C dX19_fills_74 (fun v4 => ?_)
      refine ok_iload C 4 dX19_fills_75 rfl ?_
      refine ok_iadd C dX19_fills_77 ?_
      refine ok_goto C 82 dX19_fills_78 (by decide) ?_
      exact oX19_fills_82 C T hn hR hin h41 a0 x1 a2 x3 x4 v1 (v4 + x4) s2
set_option maxHeartbeats 4000000 in
theorem oX19_fills_41 {Γ : CX} (C : OKC Γ cX19_fills RX19 (some (.object "ChaseLockerLaw$Filling"))) (T : ∀ z ∈ (cx_c Γ).exceptionTable.toList, False) (hn : cx_nL Γ = 12) (hR : cx_fr Γ = 3 ∧ cx_lo Γ = 106) (hin : (cx_meth Γ).name = yX19_fills.name) : ∀ (n : Nat) (a0 : Nat) (x1 : Int32) (a2 : Nat) (x3 : Int32) (x4 : Int32) (s0 : AS), OK Γ 41 [(0, .ref a0), (1, .int x1), (2, .ref a2), (3, .int x3), (4, .int x4)] [] (fX19_fills_41 n a0 x1 a2 x3 x4 s0) s0 := by
  intro n
  induction n with
  | zero => intro _ _ _ _ _ s0; exact OK.none
  | succ n ih =>
    intro a0 x1 a2 x3 x4 s0
    rw [fX19_fills_41]
    refine ok_iload C 4 dX19_fills_41 rfl ?_
    refine ok_iload_n C 3 dX19_fills_43 rfl ?_
    refine ok_if_eq C 56 dX19_fills_44 (by decide) ?_ ?_
    · refine ok_iconst C (v := (-1)) dX19_fills_56 (by decide) ?_
      exact oX19_fills_57 C T hn hR hin ih a0 x1 a2 x3 x4 x4 ((-1)) s0
    · refine ok_aload_n C 0 dX19_fills_47 rfl ?_
      refine ok_getR C frX19_20_13 dX19_fills_48 (fun q1 => ?_)
      refine ok_iconst C (v := 3) dX19_fills_51 (by decide) ?_
      refine ok_iald C dX19_fills_52 (fun v2 => ?_)
      refine ok_goto C 57 dX19_fills_53 (by decide) ?_
      exact oX19_fills_57 C T hn hR hin ih a0 x1 a2 x3 x4 x4 v2 s0
set_option maxHeartbeats 4000000 in
theorem oX19_fills_39 {Γ : CX} (C : OKC Γ cX19_fills RX19 (some (.object "ChaseLockerLaw$Filling"))) (T : ∀ z ∈ (cx_c Γ).exceptionTable.toList, False) (hn : cx_nL Γ = 12) (hR : cx_fr Γ = 3 ∧ cx_lo Γ = 106) (hin : (cx_meth Γ).name = yX19_fills.name) : ∀ (a0 : Nat) (x1 : Int32) (a2 : Nat) (x3 : Int32) (t0 : Int32) (s0 : AS), OK Γ 39 [(0, .ref a0), (1, .int x1), (2, .ref a2), (3, .int x3)] [.int t0] (fX19_fills_39  a0 x1 a2 x3 t0 s0) s0 := by
  intro a0 x1 a2 x3 t0 s0
  unfold fX19_fills_39
  refine ok_istore C (i := 4) [(4, .int t0), (0, .ref a0), (1, .int x1), (2, .ref a2), (3, .int x3)] dX19_fills_39 (by rw [hn]; decide) rfl ?_
  refine OK.sub (lv' := [(0, .ref a0), (1, .int x1), (2, .ref a2), (3, .int x3), (4, .int t0)]) [1, 2, 3, 4, 0] rfl ?_
  exact oX19_fills_41 C T hn hR hin FU a0 x1 a2 x3 t0 s0
set_option maxHeartbeats 4000000 in
theorem oX19_fills_29 {Γ : CX} (C : OKC Γ cX19_fills RX19 (some (.object "ChaseLockerLaw$Filling"))) (T : ∀ z ∈ (cx_c Γ).exceptionTable.toList, False) (hn : cx_nL Γ = 12) (hR : cx_fr Γ = 3 ∧ cx_lo Γ = 106) (hin : (cx_meth Γ).name = yX19_fills.name) : ∀ (a0 : Nat) (x1 : Int32) (a2 : Nat) (t0 : Int32) (s0 : AS), OK Γ 29 [(0, .ref a0), (1, .int x1), (2, .ref a2)] [.int t0] (fX19_fills_29  a0 x1 a2 t0 s0) s0 := by
  intro a0 x1 a2 t0 s0
  unfold fX19_fills_29
  refine ok_istore_n C (i := 3) [(3, .int t0), (0, .ref a0), (1, .int x1), (2, .ref a2)] dX19_fills_29 rfl (by rw [hn]; decide) rfl ?_
  refine ok_iload_n C 0 dX19_fills_30 rfl ?_
  refine ok_if_eq C 38 dX19_fills_31 (by decide) ?_ ?_
  · refine ok_iconst C (v := (-1)) dX19_fills_38 (by decide) ?_
    refine OK.sub (lv' := [(0, .ref a0), (1, .int x1), (2, .ref a2), (3, .int t0)]) [1, 2, 3, 0] rfl ?_
    exact oX19_fills_39 C T hn hR hin a0 x1 a2 t0 ((-1)) s0
  · refine ok_iconst C (v := 0) dX19_fills_34 (by decide) ?_
    refine ok_goto C 39 dX19_fills_35 (by decide) ?_
    refine OK.sub (lv' := [(0, .ref a0), (1, .int x1), (2, .ref a2), (3, .int t0)]) [1, 2, 3, 0] rfl ?_
    exact oX19_fills_39 C T hn hR hin a0 x1 a2 t0 0 s0
set_option maxHeartbeats 4000000 in
theorem oX19_fills_24 {Γ : CX} (C : OKC Γ cX19_fills RX19 (some (.object "ChaseLockerLaw$Filling"))) (T : ∀ z ∈ (cx_c Γ).exceptionTable.toList, False) (hn : cx_nL Γ = 12) (hR : cx_fr Γ = 3 ∧ cx_lo Γ = 106) (hin : (cx_meth Γ).name = yX19_fills.name) : ∀ (a0 : Nat) (x1 : Int32) (a2 : Nat) (s0 : AS), OK Γ 24 [(0, .ref a0), (1, .int x1), (2, .ref a2)] [] (fX19_fills_24  a0 x1 a2 s0) s0 := by
  intro a0 x1 a2 s0
  unfold fX19_fills_24
  refine ok_iconst C (v := 1) dX19_fills_24 (by decide) ?_
  refine ok_goto C 29 dX19_fills_25 (by decide) ?_
  exact oX19_fills_29 C T hn hR hin a0 x1 a2 1 s0
set_option maxHeartbeats 4000000 in
theorem oX19_fills {Γ : CX} (C : OKC Γ cX19_fills RX19 (some (.object "ChaseLockerLaw$Filling"))) (T : ∀ z ∈ (cx_c Γ).exceptionTable.toList, False) (hn : cx_nL Γ = 12) (hR : cx_fr Γ = 3 ∧ cx_lo Γ = 106) (hin : (cx_meth Γ).name = yX19_fills.name) : ∀ (a0 : Nat) (x1 : Int32) (s0 : AS), OK Γ 0 [(0, .ref a0), (1, .int x1)] [] (fX19_fills a0 x1 s0) s0 := by
  intro a0 x1 s0
  unfold fX19_fills
  refine ok_new C (C0 := RX18) ax_DF12 ⟨_, rfl⟩ kw_862 dX19_fills_0 (fun q1 s2 => ?_)
  refine ok_dup C dX19_fills_3 rfl ?_
  refine ok_callIN C T [] (F := fX18_init q1) (ctX18_init (C.2.2.2.2.2.2.2.2.1) q1) nlX19_132 kw_864 rfl rfl (by rw [hR.1, hR.2]; decide) (Nat.le_of_ble_eq_true rfl) dX19_fills_4 (ok_qV fun s3 => ?_)
  refine ok_astore_n C (i := 2) [(2, .ref q1), (0, .ref a0), (1, .int x1)] dX19_fills_7 rfl (by rw [hn]; decide) rfl ?_
  refine ok_aload_n C 1 dX19_fills_8 rfl ?_
  refine ok_getR C frX19_54_13 dX19_fills_9 (fun q4 => ?_)
  refine ok_iload_n C 2 dX19_fills_12 rfl ?_
  refine ok_iald C dX19_fills_13 (fun v5 => ?_)
  refine ok_if_ge C 24 dX19_fills_14 (by decide) ?_ ?_
  · refine OK.sub (lv' := [(0, .ref a0), (1, .int x1), (2, .ref q1)]) [1, 2, 0] rfl ?_
    exact oX19_fills_24 C T hn hR hin a0 x1 q1 s3
  · refine ok_aload_n C 1 dX19_fills_17 rfl ?_
    refine ok_getI C frX19_69_13 dX19_fills_18 (fun v6 => ?_)
    refine ok_if_le C 28 dX19_fills_21 (by decide) ?_ ?_
    · refine ok_iconst C (v := 0) dX19_fills_28 (by decide) ?_
      refine OK.sub (lv' := [(0, .ref a0), (1, .int x1), (2, .ref q1)]) [1, 2, 0] rfl ?_
      exact oX19_fills_29 C T hn hR hin a0 x1 q1 0 s3
    · refine OK.sub (lv' := [(0, .ref a0), (1, .int x1), (2, .ref q1)]) [1, 2, 0] rfl ?_
      exact oX19_fills_24 C T hn hR hin a0 x1 q1 s3
theorem ctX19_fills {l : Launch} (hl : l.stackTraces = false) {D : va_G} {dA : Nat → ClassId} {B0 : Nat} (a0 : Nat) (x1 : Int32) : Ct l D dA B0 yX19_fills (.code yX19_fills cX19_fills 12 (some (.object "ChaseLockerLaw$Filling")) :: ax_ALL) 3 106 [.ref a0, .int x1] (fX19_fills a0 x1) :=
  Ct.of hl (by decide +kernel) (Nat.le_of_ble_eq_true rfl) fun Γ C _ _ _ _ e5 e6 e7 T hin => oX19_fills C T e5 ⟨e6, e7⟩ hin a0 x1 _
/-! ChaseLockerLaw$World.puts(II)V -/
def fX19_puts (a0 : Nat) (x1 : Int32) (x2 : Int32) (s0 : AS) : Option AR :=
  gR s0 a0 13 8 (fun q1 =>
  aR s0 q1 110 x1 (fun q2 =>
  gR s0 a0 13 10 (fun q3 =>
  aI s0 q3 100 x1 (fun v4 =>
  uI s0 q2 v4 x2 (fun s5 =>
  gR s5 a0 13 10 (fun q6 =>
  aI s5 q6 100 x1 (fun v7 =>
  uI s5 q6 x1 (v7 + 1) (fun s8 =>
  gR s8 a0 13 3 (fun q9 =>
  aI s8 q9 100 x2 (fun v10 =>
  uI s8 q9 x2 (v10 - 1) (fun s11 =>
  some (.inl none, s11))))))))))))
set_option maxHeartbeats 4000000 in
theorem oX19_puts {Γ : CX} (C : OKC Γ cX19_puts RX19 none) (T : ∀ z ∈ (cx_c Γ).exceptionTable.toList, False) (hn : cx_nL Γ = 3) (hR : cx_fr Γ = 1 ∧ cx_lo Γ = 60) (hin : (cx_meth Γ).name = yX19_puts.name) : ∀ (a0 : Nat) (x1 : Int32) (x2 : Int32) (s0 : AS), OK Γ 0 [(0, .ref a0), (1, .int x1), (2, .int x2)] [] (fX19_puts a0 x1 x2 s0) s0 := by
  intro a0 x1 x2 s0
  unfold fX19_puts
  refine ok_aload_n C 0 dX19_puts_0 rfl ?_
  refine ok_getR C frX19_45_13 dX19_puts_1 (fun q1 => ?_)
  refine ok_iload_n C 1 dX19_puts_4 rfl ?_
  refine ok_aaldI C dX19_puts_5 (fun q2 => ?_)
  refine ok_aload_n C 0 dX19_puts_6 rfl ?_
  refine ok_getR C frX19_51_13 dX19_puts_7 (fun q3 => ?_)
  refine ok_iload_n C 1 dX19_puts_10 rfl ?_
  refine ok_iald C dX19_puts_11 (fun v4 => ?_)
  refine ok_iload_n C 2 dX19_puts_12 rfl ?_
  refine ok_iast C dX19_puts_13 (fun s5 _ => ?_)
  refine ok_aload_n C 0 dX19_puts_14 rfl ?_
  refine ok_getR C frX19_51_13 dX19_puts_15 (fun q6 => ?_)
  refine ok_iload_n C 1 dX19_puts_18 rfl ?_
  refine ok_dup2 C dX19_puts_19 rfl rfl ?_
  refine ok_iald C dX19_puts_20 (fun v7 => ?_)
  refine ok_iconst C (v := 1) dX19_puts_21 (by decide) ?_
  refine ok_iadd C dX19_puts_22 ?_
  refine ok_iast C dX19_puts_23 (fun s8 _ => ?_)
  refine ok_aload_n C 0 dX19_puts_24 rfl ?_
  refine ok_getR C frX19_27_13 dX19_puts_25 (fun q9 => ?_)
  refine ok_iload_n C 2 dX19_puts_28 rfl ?_
  refine ok_dup2 C dX19_puts_29 rfl rfl ?_
  refine ok_iald C dX19_puts_30 (fun v10 => ?_)
  refine ok_iconst C (v := 1) dX19_puts_31 (by decide) ?_
  refine ok_isub C dX19_puts_32 ?_
  refine ok_iast C dX19_puts_33 (fun s11 _ => ?_)
  exact ok_vreturn C dX19_puts_34
theorem ctX19_puts {l : Launch} (hl : l.stackTraces = false) {D : va_G} {dA : Nat → ClassId} {B0 : Nat} (a0 : Nat) (x1 : Int32) (x2 : Int32) : Ct l D dA B0 yX19_puts (.code yX19_puts cX19_puts 3 (none) :: ax_ALL) 1 60 [.ref a0, .int x1, .int x2] (fX19_puts a0 x1 x2) :=
  Ct.of hl (by decide +kernel) (Nat.le_of_ble_eq_true rfl) fun Γ C _ _ _ _ e5 e6 e7 T hin => oX19_puts C T e5 ⟨e6, e7⟩ hin a0 x1 x2 _
/-! ChaseLockerLaw$World.lock(I)Z -/
def fX19_lock_112  (a0 : Nat) (x1 : Int32) (s0 : AS) : Option AR :=
  gR s0 a0 13 13 (fun q1 =>
  uI s0 q1 x1 0 (fun s2 =>
  rZ 1 s2))
def fX19_lock_106 (r67 : Nat → Int32 → Nat → Int32 → AS → Option AR) (a0 : Nat) (x1 : Int32) (a2 : Nat) (x3 : Int32) (s0 : AS) : Option AR :=
  lt (x3 + 1) (fun v1 =>
  r67 a0 x1 a2 v1 s0)
def fX19_lock_78 (r67 : Nat → Int32 → Nat → Int32 → AS → Option AR) : Nat → Nat → Int32 → Nat → Int32 → Int32 → AS → Option AR
  | 0, _, _, _, _, _, _ => none
  | n + 1, a0, x1, a2, x3, x4, s0 =>
    gR s0 a2 12 0 (fun q1 =>
    aI s0 q1 100 x3 (fun v2 =>
    if v2 ≤ x4 then (
      fX19_lock_106 r67 a0 x1 a2 x3 s0)
    else (
      gR s0 a0 13 4 (fun q3 =>
      aI s0 q3 100 x3 (fun v4 =>
      cV s0 a0 13 (fX19_puts a0 x1 v4 s0) (qV (fun s5 =>
      lt (x4 + 1) (fun v6 =>
      fX19_lock_78 r67 n a0 x1 a2 x3 v6 s5))))))))
def fX19_lock_67  : Nat → Nat → Int32 → Nat → Int32 → AS → Option AR
  | 0, _, _, _, _, _ => none
  | n + 1, a0, x1, a2, x3, s0 =>
    gI s0 a0 13 14 (fun v1 =>
    if v1 ≤ x3 then (
      fX19_lock_112 a0 x1 s0)
    else (
      fX19_lock_78 (fX19_lock_67 n) FU a0 x1 a2 x3 0 s0))
def fX19_lock_65  (a0 : Nat) (x1 : Int32) (a2 : Nat) (s0 : AS) : Option AR :=
  fX19_lock_67 FU a0 x1 a2 0 s0
def fX19_lock_41  (a0 : Nat) (x1 : Int32) (a2 : Nat) (s0 : AS) : Option AR :=
  gI s0 a2 12 2 (fun v1 =>
  if v1 < 0 then (
    fX19_lock_65 a0 x1 a2 s0)
  else (
    gR s0 a0 13 11 (fun q2 =>
    gI s0 a2 12 2 (fun v3 =>
    uI s0 q2 x1 v3 (fun s4 =>
    gR s4 a0 13 12 (fun q5 =>
    uI s4 q5 x1 0 (fun s6 =>
    fX19_lock_65 a0 x1 a2 s6)))))))
def fX19_lock (a0 : Nat) (x1 : Int32) (s0 : AS) : Option AR :=
  cV s0 a0 13 (fX19_fills a0 x1 s0) (qR (fun q1 s2 =>
  gI s2 q1 12 3 (fun v3 =>
  if v3 = 0 then (
    rZ 0 s2)
  else (
    gI s2 q1 12 2 (fun v4 =>
    if v4 < 0 then (
      fX19_lock_41 a0 x1 q1 s2)
    else (
      gR s2 a0 13 11 (fun q5 =>
      aI s2 q5 100 x1 (fun v6 =>
      if 0 ≤ v6 then (
        fX19_lock_41 a0 x1 q1 s2)
      else (
        gI s2 a0 13 15 (fun v7 =>
        sI s2 a0 13 15 (v7 - 1) (fun s8 =>
        fX19_lock_41 a0 x1 q1 s8)))))))))))
set_option maxHeartbeats 4000000 in
theorem oX19_lock_112 {Γ : CX} (C : OKC Γ cX19_lock RX19 (some (.boolean))) (T : ∀ z ∈ (cx_c Γ).exceptionTable.toList, False) (hn : cx_nL Γ = 5) (hR : cx_fr Γ = 4 ∧ cx_lo Γ = 137) (hin : (cx_meth Γ).name = yX19_lock.name) : ∀ (a0 : Nat) (x1 : Int32) (s0 : AS), OK Γ 112 [(0, .ref a0), (1, .int x1)] [] (fX19_lock_112  a0 x1 s0) s0 := by
  intro a0 x1 s0
  unfold fX19_lock_112
  refine ok_aload_n C 0 dX19_lock_112 rfl ?_
  refine ok_getR C frX19_60_13 dX19_lock_113 (fun q1 => ?_)
  refine ok_iload_n C 1 dX19_lock_116 rfl ?_
  refine ok_iconst C (v := 0) dX19_lock_117 (by decide) ?_
  refine ok_iast C dX19_lock_118 (fun s2 _ => ?_)
  refine ok_iconst C (v := 1) dX19_lock_119 (by decide) ?_
  exact ok_zreturn C dX19_lock_120
set_option maxHeartbeats 4000000 in
theorem oX19_lock_106 {Γ : CX} (C : OKC Γ cX19_lock RX19 (some (.boolean))) (T : ∀ z ∈ (cx_c Γ).exceptionTable.toList, False) (hn : cx_nL Γ = 5) (hR : cx_fr Γ = 4 ∧ cx_lo Γ = 137) (hin : (cx_meth Γ).name = yX19_lock.name) {r67 : Nat → Int32 → Nat → Int32 → AS → Option AR} (h67 : ∀ (a0 : Nat) (x1 : Int32) (a2 : Nat) (x3 : Int32) (s0 : AS), OK Γ 67 [(0, .ref a0), (1, .int x1), (2, .ref a2), (3, .int x3)] [] (r67 a0 x1 a2 x3 s0) s0) : ∀ (a0 : Nat) (x1 : Int32) (a2 : Nat) (x3 : Int32) (s0 : AS), OK Γ 106 [(0, .ref a0), (1, .int x1), (2, .ref a2), (3, .int x3)] [] (fX19_lock_106 r67 a0 x1 a2 x3 s0) s0 := by
  intro a0 x1 a2 x3 s0
  unfold fX19_lock_106
  refine ok_iincL C 3 (c := 1) (fun v1 => [(3, .int v1), (0, .ref a0), (1, .int x1), (2, .ref a2)]) dX19_lock_106 rfl rfl (by rw [hn]; decide) (fun _ => rfl) (fun v1 => ?_)
  refine ok_goto C 67 dX19_lock_109 (by decide) ?_
  refine OK.sub (lv' := [(0, .ref a0), (1, .int x1), (2, .ref a2), (3, .int v1)]) [1, 2, 3, 0] rfl ?_
  exact h67 a0 x1 a2 v1 s0
set_option maxHeartbeats 4000000 in
theorem oX19_lock_78 {Γ : CX} (C : OKC Γ cX19_lock RX19 (some (.boolean))) (T : ∀ z ∈ (cx_c Γ).exceptionTable.toList, False) (hn : cx_nL Γ = 5) (hR : cx_fr Γ = 4 ∧ cx_lo Γ = 137) (hin : (cx_meth Γ).name = yX19_lock.name) {r67 : Nat → Int32 → Nat → Int32 → AS → Option AR} (h67 : ∀ (a0 : Nat) (x1 : Int32) (a2 : Nat) (x3 : Int32) (s0 : AS), OK Γ 67 [(0, .ref a0), (1, .int x1), (2, .ref a2), (3, .int x3)] [] (r67 a0 x1 a2 x3 s0) s0) : ∀ (n : Nat) (a0 : Nat) (x1 : Int32) (a2 : Nat) (x3 : Int32) (x4 : Int32) (s0 : AS), OK Γ 78 [(0, .ref a0), (1, .int x1), (2, .ref a2), (3, .int x3), (4, .int x4)] [] (fX19_lock_78 r67 n a0 x1 a2 x3 x4 s0) s0 := by
  intro n
  induction n with
  | zero => intro _ _ _ _ _ s0; exact OK.none
  | succ n ih =>
    intro a0 x1 a2 x3 x4 s0
    rw [fX19_lock_78]
    refine ok_iload C 4 dX19_lock_78 rfl ?_
    refine ok_aload_n C 2 dX19_lock_80 rfl ?_
    refine ok_getNR C fnrX19_141_12 dX19_lock_81 (fun q1 => ?_)
    refine ok_iload_n C 3 dX19_lock_84 rfl ?_
    refine ok_iald C dX19_lock_85 (fun v2 => ?_)
    refine ok_icmp_ge C 106 dX19_lock_86 (by decide) ?_ ?_
    · refine OK.sub (lv' := [(0, .ref a0), (1, .int x1), (2, .ref a2), (3, .int x3)]) [0, 1, 2, 3] rfl ?_
      exact oX19_lock_106 C T hn hR hin h67 a0 x1 a2 x3 s0
    · refine ok_aload_n C 0 dX19_lock_89 rfl ?_
      refine ok_iload_n C 1 dX19_lock_90 rfl ?_
      refine ok_aload_n C 0 dX19_lock_91 rfl ?_
      refine ok_getR C frX19_30_13 dX19_lock_92 (fun q3 => ?_)
      refine ok_iload_n C 3 dX19_lock_95 rfl ?_
      refine ok_iald C dX19_lock_96 (fun v4 => ?_)
      refine ok_callV C T [.int x1, .int v4] (F := fX19_puts a0 x1 v4) (ctX19_puts (C.2.2.2.2.2.2.2.2.1) a0 x1 v4) vlX19_146 viX19_puts rfl rfl (by decide) rfl (by rw [hR.1, hR.2]; decide) (Nat.le_of_ble_eq_true rfl) dX19_lock_97 (ok_qV fun s5 => ?_)
      refine ok_iincL C 4 (c := 1) (fun v6 => [(4, .int v6), (0, .ref a0), (1, .int x1), (2, .ref a2), (3, .int x3)]) dX19_lock_100 rfl rfl (by rw [hn]; decide) (fun _ => rfl) (fun v6 => ?_)
      refine ok_goto C 78 dX19_lock_103 (by decide) ?_
      refine OK.sub (lv' := [(0, .ref a0), (1, .int x1), (2, .ref a2), (3, .int x3), (4, .int v6)]) [1, 2, 3, 4, 0] rfl ?_
      exact ih a0 x1 a2 x3 v6 s5
set_option maxHeartbeats 4000000 in
theorem oX19_lock_67 {Γ : CX} (C : OKC Γ cX19_lock RX19 (some (.boolean))) (T : ∀ z ∈ (cx_c Γ).exceptionTable.toList, False) (hn : cx_nL Γ = 5) (hR : cx_fr Γ = 4 ∧ cx_lo Γ = 137) (hin : (cx_meth Γ).name = yX19_lock.name) : ∀ (n : Nat) (a0 : Nat) (x1 : Int32) (a2 : Nat) (x3 : Int32) (s0 : AS), OK Γ 67 [(0, .ref a0), (1, .int x1), (2, .ref a2), (3, .int x3)] [] (fX19_lock_67 n a0 x1 a2 x3 s0) s0 := by
  intro n
  induction n with
  | zero => intro _ _ _ _ s0; exact OK.none
  | succ n ih =>
    intro a0 x1 a2 x3 s0
    rw [fX19_lock_67]
    refine ok_iload_n C 3 dX19_lock_67 rfl ?_
    refine ok_aload_n C 0 dX19_lock_68 rfl ?_
    refine ok_getI C frX19_89_13 dX19_lock_69 (fun v1 => ?_)
    refine ok_icmp_ge C 112 dX19_lock_72 (by decide) ?_ ?_
    · refine OK.sub (lv' := [(0, .ref a0), (1, .int x1)]) [0, 1] rfl ?_
      exact oX19_lock_112 C T hn hR hin a0 x1 s0
    · refine ok_iconst C (v := 0) dX19_lock_75 (by decide) ?_
      refine ok_istore C (i := 4) [(4, .int 0), (0, .ref a0), (1, .int x1), (2, .ref a2), (3, .int x3)] dX19_lock_76 (by rw [hn]; decide) rfl ?_
      refine OK.sub (lv' := [(0, .ref a0), (1, .int x1), (2, .ref a2), (3, .int x3), (4, .int 0)]) [1, 2, 3, 4, 0] rfl ?_
      exact oX19_lock_78 C T hn hR hin ih FU a0 x1 a2 x3 0 s0
set_option maxHeartbeats 4000000 in
theorem oX19_lock_65 {Γ : CX} (C : OKC Γ cX19_lock RX19 (some (.boolean))) (T : ∀ z ∈ (cx_c Γ).exceptionTable.toList, False) (hn : cx_nL Γ = 5) (hR : cx_fr Γ = 4 ∧ cx_lo Γ = 137) (hin : (cx_meth Γ).name = yX19_lock.name) : ∀ (a0 : Nat) (x1 : Int32) (a2 : Nat) (s0 : AS), OK Γ 65 [(0, .ref a0), (1, .int x1), (2, .ref a2)] [] (fX19_lock_65  a0 x1 a2 s0) s0 := by
  intro a0 x1 a2 s0
  unfold fX19_lock_65
  refine ok_iconst C (v := 0) dX19_lock_65 (by decide) ?_
  refine ok_istore_n C (i := 3) [(3, .int 0), (0, .ref a0), (1, .int x1), (2, .ref a2)] dX19_lock_66 rfl (by rw [hn]; decide) rfl ?_
  refine OK.sub (lv' := [(0, .ref a0), (1, .int x1), (2, .ref a2), (3, .int 0)]) [1, 2, 3, 0] rfl ?_
  exact oX19_lock_67 C T hn hR hin FU a0 x1 a2 0 s0
set_option maxHeartbeats 4000000 in
theorem oX19_lock_41 {Γ : CX} (C : OKC Γ cX19_lock RX19 (some (.boolean))) (T : ∀ z ∈ (cx_c Γ).exceptionTable.toList, False) (hn : cx_nL Γ = 5) (hR : cx_fr Γ = 4 ∧ cx_lo Γ = 137) (hin : (cx_meth Γ).name = yX19_lock.name) : ∀ (a0 : Nat) (x1 : Int32) (a2 : Nat) (s0 : AS), OK Γ 41 [(0, .ref a0), (1, .int x1), (2, .ref a2)] [] (fX19_lock_41  a0 x1 a2 s0) s0 := by
  intro a0 x1 a2 s0
  unfold fX19_lock_41
  refine ok_aload_n C 2 dX19_lock_41 rfl ?_
  refine ok_getNI C fnrX19_138_12 dX19_lock_42 (fun v1 => ?_)
  refine ok_if_lt C 65 dX19_lock_45 (by decide) ?_ ?_
  · exact oX19_lock_65 C T hn hR hin a0 x1 a2 s0
  · refine ok_aload_n C 0 dX19_lock_48 rfl ?_
    refine ok_getR C frX19_54_13 dX19_lock_49 (fun q2 => ?_)
    refine ok_iload_n C 1 dX19_lock_52 rfl ?_
    refine ok_aload_n C 2 dX19_lock_53 rfl ?_
    refine ok_getNI C fnrX19_138_12 dX19_lock_54 (fun v3 => ?_)
    refine ok_iast C dX19_lock_57 (fun s4 _ => ?_)
    refine ok_aload_n C 0 dX19_lock_58 rfl ?_
    refine ok_getR C frX19_57_13 dX19_lock_59 (fun q5 => ?_)
    refine ok_iload_n C 1 dX19_lock_62 rfl ?_
    refine ok_iconst C (v := 0) dX19_lock_63 (by decide) ?_
    refine ok_iast C dX19_lock_64 (fun s6 _ => ?_)
    exact oX19_lock_65 C T hn hR hin a0 x1 a2 s6
set_option maxHeartbeats 4000000 in
theorem oX19_lock {Γ : CX} (C : OKC Γ cX19_lock RX19 (some (.boolean))) (T : ∀ z ∈ (cx_c Γ).exceptionTable.toList, False) (hn : cx_nL Γ = 5) (hR : cx_fr Γ = 4 ∧ cx_lo Γ = 137) (hin : (cx_meth Γ).name = yX19_lock.name) : ∀ (a0 : Nat) (x1 : Int32) (s0 : AS), OK Γ 0 [(0, .ref a0), (1, .int x1)] [] (fX19_lock a0 x1 s0) s0 := by
  intro a0 x1 s0
  unfold fX19_lock
  refine ok_aload_n C 0 dX19_lock_0 rfl ?_
  refine ok_iload_n C 1 dX19_lock_1 rfl ?_
  refine ok_callV C T [.int x1] (F := fX19_fills a0 x1) (ctX19_fills (C.2.2.2.2.2.2.2.2.1) a0 x1) vlX19_142 viX19_fills rfl rfl (by decide) rfl (by rw [hR.1, hR.2]; decide) (Nat.le_of_ble_eq_true rfl) dX19_lock_2 (ok_qR fun q1 s2 => ?_)
  refine ok_astore_n C (i := 2) [(2, .ref q1), (0, .ref a0), (1, .int x1)] dX19_lock_5 rfl (by rw [hn]; decide) rfl ?_
  refine ok_aload_n C 0 dX19_lock_6 rfl ?_
  refine ok_getNI C fnrX19_133_12 dX19_lock_7 (fun v3 => ?_)
  refine ok_if_ne C 15 dX19_lock_10 (by decide) ?_ ?_
  · refine ok_aload_n C 0 dX19_lock_15 rfl ?_
    refine ok_getNI C fnrX19_138_12 dX19_lock_16 (fun v4 => ?_)
    refine ok_if_lt C 41 dX19_lock_19 (by decide) ?_ ?_
    · refine OK.sub (lv' := [(0, .ref a0), (1, .int x1), (2, .ref q1)]) [1, 2, 0] rfl ?_
      exact oX19_lock_41 C T hn hR hin a0 x1 q1 s2
    · refine ok_aload_n C 1 dX19_lock_22 rfl ?_
      refine ok_getR C frX19_54_13 dX19_lock_23 (fun q5 => ?_)
      refine ok_iload_n C 2 dX19_lock_26 rfl ?_
      refine ok_iald C dX19_lock_27 (fun v6 => ?_)
      refine ok_if_ge C 41 dX19_lock_28 (by decide) ?_ ?_
      · refine OK.sub (lv' := [(0, .ref a0), (1, .int x1), (2, .ref q1)]) [1, 2, 0] rfl ?_
        exact oX19_lock_41 C T hn hR hin a0 x1 q1 s2
      · refine ok_aload_n C 1 dX19_lock_31 rfl ?_
        refine ok_dup C dX19_lock_32 rfl ?_
        refine ok_getI C frX19_69_13 dX19_lock_33 (fun v7 => ?_)
        refine ok_iconst C (v := 1) dX19_lock_36 (by decide) ?_
        refine ok_isub C dX19_lock_37 ?_
        refine ok_putI C flX19_69_13 dX19_lock_38 (fun s8 _ => ?_)
        refine OK.sub (lv' := [(0, .ref a0), (1, .int x1), (2, .ref q1)]) [1, 2, 0] rfl ?_
        exact oX19_lock_41 C T hn hR hin a0 x1 q1 s8
  · refine ok_iconst C (v := 0) dX19_lock_13 (by decide) ?_
    exact ok_zreturn C dX19_lock_14
theorem ctX19_lock {l : Launch} (hl : l.stackTraces = false) {D : va_G} {dA : Nat → ClassId} {B0 : Nat} (a0 : Nat) (x1 : Int32) : Ct l D dA B0 yX19_lock (.code yX19_lock cX19_lock 5 (some (.boolean)) :: ax_ALL) 4 137 [.ref a0, .int x1] (fX19_lock a0 x1) :=
  Ct.of hl (by decide +kernel) (Nat.le_of_ble_eq_true rfl) fun Γ C _ _ _ _ e5 e6 e7 T hin => oX19_lock C T e5 ⟨e6, e7⟩ hin a0 x1 _
/-! ChaseLockerLaw$World.tight()I -/
def fX19_tight_28 (r4 : Nat → Int32 → Int32 → AS → Option AR) (a0 : Nat) (x2 : Int32) (t0 : Int32) (t1 : Int32) (s0 : AS) : Option AR :=
  lt (t0 + t1) (fun v1 =>
  lt (x2 + 1) (fun v2 =>
  r4 a0 v1 v2 s0))
def fX19_tight_4  : Nat → Nat → Int32 → Int32 → AS → Option AR
  | 0, _, _, _, _ => none
  | n + 1, a0, x1, x2, s0 =>
    gR s0 a0 13 1 (fun q1 =>
    aI s0 q1 100 1 (fun v2 =>
    if v2 ≤ x2 then (
      some (.inl (some (.int x1)), s0))
    else (
      cV s0 a0 13 (fX19_isTight a0 x2 s0) (qI (fun v3 s4 =>
      if v3 = 0 then (
        fX19_tight_28 (fX19_tight_4 n) a0 x2 x1 0 s4)
      else (
        fX19_tight_28 (fX19_tight_4 n) a0 x2 x1 1 s4))))))
def fX19_tight (a0 : Nat) (s0 : AS) : Option AR :=
  fX19_tight_4 FU a0 0 0 s0
set_option maxHeartbeats 4000000 in
theorem oX19_tight_28 {Γ : CX} (C : OKC Γ cX19_tight RX19 (some (.int))) (T : ∀ z ∈ (cx_c Γ).exceptionTable.toList, False) (hn : cx_nL Γ = 3) (hR : cx_fr Γ = 5 ∧ cx_lo Γ = 148) (hin : (cx_meth Γ).name = yX19_tight.name) {r4 : Nat → Int32 → Int32 → AS → Option AR} (h4 : ∀ (a0 : Nat) (x1 : Int32) (x2 : Int32) (s0 : AS), OK Γ 4 [(0, .ref a0), (1, .int x1), (2, .int x2)] [] (r4 a0 x1 x2 s0) s0) : ∀ (a0 : Nat) (x2 : Int32) (t0 : Int32) (t1 : Int32) (s0 : AS), OK Γ 28 [(0, .ref a0), (2, .int x2)] [.int t1, .int t0] (fX19_tight_28 r4 a0 x2 t0 t1 s0) s0 := by
  intro a0 x2 t0 t1 s0
  unfold fX19_tight_28
  refine ok_iadd C dX19_tight_28 ?_
  refine ok_lt (fun v1 => ?_)
  refine ok_istore_n C (i := 1) [(1, .int v1), (0, .ref a0), (2, .int x2)] dX19_tight_29 rfl (by rw [hn]; decide) rfl ?_
  refine ok_iincL C 2 (c := 1) (fun v2 => [(2, .int v2), (1, .int v1), (0, .ref a0)]) dX19_tight_30 rfl rfl (by rw [hn]; decide) (fun _ => rfl) (fun v2 => ?_)
  refine ok_goto C 4 dX19_tight_33 (by decide) ?_
  refine OK.sub (lv' := [(0, .ref a0), (1, .int v1), (2, .int v2)]) [2, 1, 0] rfl ?_
  exact h4 a0 v1 v2 s0
set_option maxHeartbeats 4000000 in
theorem oX19_tight_4 {Γ : CX} (C : OKC Γ cX19_tight RX19 (some (.int))) (T : ∀ z ∈ (cx_c Γ).exceptionTable.toList, False) (hn : cx_nL Γ = 3) (hR : cx_fr Γ = 5 ∧ cx_lo Γ = 148) (hin : (cx_meth Γ).name = yX19_tight.name) : ∀ (n : Nat) (a0 : Nat) (x1 : Int32) (x2 : Int32) (s0 : AS), OK Γ 4 [(0, .ref a0), (1, .int x1), (2, .int x2)] [] (fX19_tight_4 n a0 x1 x2 s0) s0 := by
  intro n
  induction n with
  | zero => intro _ _ _ s0; exact OK.none
  | succ n ih =>
    intro a0 x1 x2 s0
    rw [fX19_tight_4]
    refine ok_iload_n C 2 dX19_tight_4 rfl ?_
    refine ok_aload_n C 0 dX19_tight_5 rfl ?_
    refine ok_getR C frX19_20_13 dX19_tight_6 (fun q1 => ?_)
    refine ok_iconst C (v := 1) dX19_tight_9 (by decide) ?_
    refine ok_iald C dX19_tight_10 (fun v2 => ?_)
    refine ok_icmp_ge C 36 dX19_tight_11 (by decide) ?_ ?_
    · refine ok_iload_n C 1 dX19_tight_36 rfl ?_
      exact ok_ireturn C dX19_tight_37
    · refine ok_iload_n C 1 dX19_tight_14 rfl ?_
      refine ok_aload_n C 0 dX19_tight_15 rfl ?_
      refine ok_iload_n C 2 dX19_tight_16 rfl ?_
      refine ok_callV C T [.int x2] (F := fX19_isTight a0 x2) (ctX19_isTight (C.2.2.2.2.2.2.2.2.1) a0 x2) vlX19_150 viX19_isTight rfl rfl (by decide) rfl (by rw [hR.1, hR.2]; decide) (Nat.le_of_ble_eq_true rfl) dX19_tight_17 (ok_qI fun v3 s4 => ?_)
      refine ok_if_eq C 27 dX19_tight_20 (by decide) ?_ ?_
      · refine ok_iconst C (v := 0) dX19_tight_27 (by decide) ?_
        refine OK.sub (lv' := [(0, .ref a0), (2, .int x2)]) [0, 2] rfl ?_
        exact oX19_tight_28 C T hn hR hin ih a0 x2 x1 0 s4
      · refine ok_iconst C (v := 1) dX19_tight_23 (by decide) ?_
        refine ok_goto C 28 dX19_tight_24 (by decide) ?_
        refine OK.sub (lv' := [(0, .ref a0), (2, .int x2)]) [0, 2] rfl ?_
        exact oX19_tight_28 C T hn hR hin ih a0 x2 x1 1 s4
set_option maxHeartbeats 4000000 in
theorem oX19_tight {Γ : CX} (C : OKC Γ cX19_tight RX19 (some (.int))) (T : ∀ z ∈ (cx_c Γ).exceptionTable.toList, False) (hn : cx_nL Γ = 3) (hR : cx_fr Γ = 5 ∧ cx_lo Γ = 148) (hin : (cx_meth Γ).name = yX19_tight.name) : ∀ (a0 : Nat) (s0 : AS), OK Γ 0 [(0, .ref a0)] [] (fX19_tight a0 s0) s0 := by
  intro a0 s0
  unfold fX19_tight
  refine ok_iconst C (v := 0) dX19_tight_0 (by decide) ?_
  refine ok_istore_n C (i := 1) [(1, .int 0), (0, .ref a0)] dX19_tight_1 rfl (by rw [hn]; decide) rfl ?_
  refine ok_iconst C (v := 0) dX19_tight_2 (by decide) ?_
  refine ok_istore_n C (i := 2) [(2, .int 0), (1, .int 0), (0, .ref a0)] dX19_tight_3 rfl (by rw [hn]; decide) rfl ?_
  refine OK.sub (lv' := [(0, .ref a0), (1, .int 0), (2, .int 0)]) [2, 1, 0] rfl ?_
  exact oX19_tight_4 C T hn hR hin FU a0 0 0 s0
theorem ctX19_tight {l : Launch} (hl : l.stackTraces = false) {D : va_G} {dA : Nat → ClassId} {B0 : Nat} (a0 : Nat) : Ct l D dA B0 yX19_tight (.code yX19_tight cX19_tight 3 (some (.int)) :: ax_ALL) 5 148 [.ref a0] (fX19_tight a0) :=
  Ct.of hl (by decide +kernel) (Nat.le_of_ble_eq_true rfl) fun Γ C _ _ _ _ e5 e6 e7 T hin => oX19_tight C T e5 ⟨e6, e7⟩ hin a0 _
