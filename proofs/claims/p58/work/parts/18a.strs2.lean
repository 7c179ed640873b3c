/-! java/lang/AbstractStringBuilder.inflateIfNeededFor(Ljava/lang/String;)V -/
def fJ5_inflateIfNeededFor_a7421 (a0 : Nat) (a1 : Nat) (s0 : AS) : Option AR :=
  if (1 : Int32) = 0 then (
    some (.inl none, s0))
  else (
    gI s0 a0 1 1 (fun v1 =>
    cK s0 a1 (fJ0_coder_7d493 a1 s0) (qI (fun v2 s3 =>
    if v1 = v2 then (
      some (.inl none, s3))
    else (
      none)))))
set_option maxHeartbeats 4000000 in
theorem oJ5_inflateIfNeededFor_a7421 {Γ : CX} (C : OKC Γ cJ5_inflateIfNeededFor_a7421 RJ5 none) (T : ∀ z ∈ (cx_c Γ).exceptionTable.toList, False) (hn : cx_nL Γ = 2) (hR : cx_fr Γ = 2 ∧ cx_lo Γ = 80) (hin : (cx_meth Γ).name = yJ5_inflateIfNeededFor_a7421.name) : ∀ (a0 : Nat) (a1 : Nat) (s0 : AS), OK Γ 0 [(0, .ref a0), (1, .ref a1)] [] (fJ5_inflateIfNeededFor_a7421 a0 a1 s0) s0 := by
  intro a0 a1 s0
  unfold fJ5_inflateIfNeededFor_a7421
  refine ok_getCS C kw_50 dJ5_inflateIfNeededFor_a7421_0 ?_
  refine ok_if_eq C 21 dJ5_inflateIfNeededFor_a7421_3 (by decide) ?_ ?_
  · exact ok_vreturn C dJ5_inflateIfNeededFor_a7421_21
  · refine ok_aload_n C 0 dJ5_inflateIfNeededFor_a7421_6 rfl ?_
    refine ok_getI C frJ5_22_1 dJ5_inflateIfNeededFor_a7421_7 (fun v1 => ?_)
    refine ok_aload_n C 1 dJ5_inflateIfNeededFor_a7421_10 rfl ?_
    refine ok_callK C T [] (F := fJ0_coder_7d493 a1) (ctJ0_coder_7d493 (C.2.2.2.2.2.2.2.2.1) a1) vlJ5_40 viJ0_coder_7d493 rfl rfl (by rw [hR.1, hR.2]; decide) (Nat.le_of_ble_eq_true rfl) dJ5_inflateIfNeededFor_a7421_11 (ok_qI fun v2 s3 => ?_)
    refine ok_icmp_eq C 21 dJ5_inflateIfNeededFor_a7421_14 (by decide) ?_ ?_
    · exact ok_vreturn C dJ5_inflateIfNeededFor_a7421_21
    · refine ok_aload_n C 0 dJ5_inflateIfNeededFor_a7421_17 rfl ?_
      exact OK.none
theorem ctJ5_inflateIfNeededFor_a7421 {l : Launch} (hl : l.stackTraces = false) {D : va_G} {dA : Nat → ClassId} {B0 : Nat} (a0 : Nat) (a1 : Nat) : Ct l D dA B0 yJ5_inflateIfNeededFor_a7421 (.code yJ5_inflateIfNeededFor_a7421 cJ5_inflateIfNeededFor_a7421 2 (none) :: ax_ALL) 2 80 [.ref a0, .ref a1] (fJ5_inflateIfNeededFor_a7421 a0 a1) :=
  Ct.of hl (by decide +kernel) (Nat.le_of_ble_eq_true rfl) fun Γ C _ _ _ _ e5 e6 e7 T hin => oJ5_inflateIfNeededFor_a7421 C T e5 ⟨e6, e7⟩ hin a0 a1 _
/-! java/lang/String.getBytes([BIB)V -/
def fJ0_getBytes_840e7 (a0 : Nat) (a1 : Nat) (x2 : Int32) (x3 : Int32) (s0 : AS) : Option AR :=
  cK s0 a0 (fJ0_coder_7d493 a0 s0) (qI (fun v1 s2 =>
  if v1 = x3 then (
    sK a0 (
    sK a0 (
    sN ((a0 + 2000000)) (fun v4 =>
    cpK s2 ((a0 + 2000000)) 0 a1 (x2 <<< (x3 &&& 31)) v4 (fun s5 =>
    some (.inl none, s5))))))
  else (
    sK a0 (
    sK a0 (
    sN ((a0 + 2000000)) (fun v3 =>
    none))))))
set_option maxHeartbeats 4000000 in
theorem oJ0_getBytes_840e7 {Γ : CX} (C : OKC Γ cJ0_getBytes_840e7 RJ0 none) (T : ∀ z ∈ (cx_c Γ).exceptionTable.toList, False) (hn : cx_nL Γ = 4) (hR : cx_fr Γ = 2 ∧ cx_lo Γ = 100) (hin : (cx_meth Γ).name = yJ0_getBytes_840e7.name) : ∀ (a0 : Nat) (a1 : Nat) (x2 : Int32) (x3 : Int32) (s0 : AS), OK Γ 0 [(0, .ref a0), (1, .ref a1), (2, .int x2), (3, .int x3)] [] (fJ0_getBytes_840e7 a0 a1 x2 x3 s0) s0 := by
  intro a0 a1 x2 x3 s0
  unfold fJ0_getBytes_840e7
  refine ok_aload_n C 0 dJ0_getBytes_840e7_0 rfl ?_
  refine ok_callK C T [] (F := fJ0_coder_7d493 a0) (ctJ0_coder_7d493 (C.2.2.2.2.2.2.2.2.1) a0) vlJ0_335 viJ0_coder_7d493 rfl rfl (by rw [hR.1, hR.2]; decide) (Nat.le_of_ble_eq_true rfl) dJ0_getBytes_840e7_1 (ok_qI fun v1 s2 => ?_)
  refine ok_iload_n C 3 dJ0_getBytes_840e7_4 rfl ?_
  refine ok_icmp_ne C 28 dJ0_getBytes_840e7_5 (by decide) ?_ ?_
  · refine ok_aload_n C 0 dJ0_getBytes_840e7_28 rfl ?_
    refine ok_kval C kw_24 dJ0_getBytes_840e7_29 ?_
    refine ok_iconst C (v := 0) dJ0_getBytes_840e7_32 (by decide) ?_
    refine ok_aload_n C 1 dJ0_getBytes_840e7_33 rfl ?_
    refine ok_iload_n C 2 dJ0_getBytes_840e7_34 rfl ?_
    refine ok_aload_n C 0 dJ0_getBytes_840e7_35 rfl ?_
    refine ok_kval C kw_24 dJ0_getBytes_840e7_36 ?_
    refine ok_klen C dJ0_getBytes_840e7_39 (fun v3 => ?_)
    exact OK.none
  · refine ok_aload_n C 0 dJ0_getBytes_840e7_8 rfl ?_
    refine ok_kval C kw_24 dJ0_getBytes_840e7_9 ?_
    refine ok_iconst C (v := 0) dJ0_getBytes_840e7_12 (by decide) ?_
    refine ok_aload_n C 1 dJ0_getBytes_840e7_13 rfl ?_
    refine ok_iload_n C 2 dJ0_getBytes_840e7_14 rfl ?_
    refine ok_iload_n C 3 dJ0_getBytes_840e7_15 rfl ?_
    refine ok_ishl C dJ0_getBytes_840e7_16 ?_
    refine ok_aload_n C 0 dJ0_getBytes_840e7_17 rfl ?_
    refine ok_kval C kw_24 dJ0_getBytes_840e7_18 ?_
    refine ok_klen C dJ0_getBytes_840e7_21 (fun v4 => ?_)
    refine ok_copyK C clJ0_212 (by rw [hR.1]; decide) (by rw [hR.2]; exact Nat.le_of_ble_eq_true rfl) dJ0_getBytes_840e7_22 (fun s5 => ?_)
    refine ok_goto C 43 dJ0_getBytes_840e7_25 (by decide) ?_
    exact ok_vreturn C dJ0_getBytes_840e7_43
theorem ctJ0_getBytes_840e7 {l : Launch} (hl : l.stackTraces = false) {D : va_G} {dA : Nat → ClassId} {B0 : Nat} (a0 : Nat) (a1 : Nat) (x2 : Int32) (x3 : Int32) : Ct l D dA B0 yJ0_getBytes_840e7 (.code yJ0_getBytes_840e7 cJ0_getBytes_840e7 4 (none) :: ax_ALL) 2 100 [.ref a0, .ref a1, .int x2, .int x3] (fJ0_getBytes_840e7 a0 a1 x2 x3) :=
  Ct.of hl (by decide +kernel) (Nat.le_of_ble_eq_true rfl) fun Γ C _ _ _ _ e5 e6 e7 T hin => oJ0_getBytes_840e7 C T e5 ⟨e6, e7⟩ hin a0 a1 x2 x3 _
/-! java/lang/AbstractStringBuilder.putStringAt(ILjava/lang/String;)V -/
def fJ5_putStringAt_47b60 (a0 : Nat) (x1 : Int32) (a2 : Nat) (s0 : AS) : Option AR :=
  cV s0 a0 1 (fJ5_inflateIfNeededFor_a7421 a0 a2 s0) (qV (fun s1 =>
  gR s1 a0 1 0 (fun q2 =>
  gI s1 a0 1 1 (fun v3 =>
  cK s1 a2 (fJ0_getBytes_840e7 a2 q2 x1 v3 s1) (qV (fun s4 =>
  some (.inl none, s4)))))))
set_option maxHeartbeats 4000000 in
theorem oJ5_putStringAt_47b60 {Γ : CX} (C : OKC Γ cJ5_putStringAt_47b60 RJ5 none) (T : ∀ z ∈ (cx_c Γ).exceptionTable.toList, False) (hn : cx_nL Γ = 3) (hR : cx_fr Γ = 3 ∧ cx_lo Γ = 123) (hin : (cx_meth Γ).name = yJ5_putStringAt_47b60.name) : ∀ (a0 : Nat) (x1 : Int32) (a2 : Nat) (s0 : AS), OK Γ 0 [(0, .ref a0), (1, .int x1), (2, .ref a2)] [] (fJ5_putStringAt_47b60 a0 x1 a2 s0) s0 := by
  intro a0 x1 a2 s0
  unfold fJ5_putStringAt_47b60
  refine ok_aload_n C 0 dJ5_putStringAt_47b60_0 rfl ?_
  refine ok_aload_n C 2 dJ5_putStringAt_47b60_1 rfl ?_
  refine ok_callU C T [.ref a2] (F := fJ5_inflateIfNeededFor_a7421 a0 a2) (ctJ5_inflateIfNeededFor_a7421 (C.2.2.2.2.2.2.2.2.1) a0 a2) unJ5_397 rfl (by decide) rfl (by rw [hR.1, hR.2]; decide) (Nat.le_of_ble_eq_true rfl) dJ5_putStringAt_47b60_2 (ok_qV fun s1 => ?_)
  refine ok_aload_n C 2 dJ5_putStringAt_47b60_5 rfl ?_
  refine ok_aload_n C 0 dJ5_putStringAt_47b60_6 rfl ?_
  refine ok_getR C frJ5_15_1 dJ5_putStringAt_47b60_7 (fun q2 => ?_)
  refine ok_iload_n C 1 dJ5_putStringAt_47b60_10 rfl ?_
  refine ok_aload_n C 0 dJ5_putStringAt_47b60_11 rfl ?_
  refine ok_getI C frJ5_22_1 dJ5_putStringAt_47b60_12 (fun v3 => ?_)
  refine ok_callK C T [.ref q2, .int x1, .int v3] (F := fJ0_getBytes_840e7 a2 q2 x1 v3) (ctJ0_getBytes_840e7 (C.2.2.2.2.2.2.2.2.1) a2 q2 x1 v3) vlJ5_399 viJ0_getBytes_840e7 rfl rfl (by rw [hR.1, hR.2]; decide) (Nat.le_of_ble_eq_true rfl) dJ5_putStringAt_47b60_15 (ok_qV fun s4 => ?_)
  exact ok_vreturn C dJ5_putStringAt_47b60_18
theorem ctJ5_putStringAt_47b60 {l : Launch} (hl : l.stackTraces = false) {D : va_G} {dA : Nat → ClassId} {B0 : Nat} (a0 : Nat) (x1 : Int32) (a2 : Nat) : Ct l D dA B0 yJ5_putStringAt_47b60 (.code yJ5_putStringAt_47b60 cJ5_putStringAt_47b60 3 (none) :: ax_ALL) 3 123 [.ref a0, .int x1, .ref a2] (fJ5_putStringAt_47b60 a0 x1 a2) :=
  Ct.of hl (by decide +kernel) (Nat.le_of_ble_eq_true rfl) fun Γ C _ _ _ _ e5 e6 e7 T hin => oJ5_putStringAt_47b60 C T e5 ⟨e6, e7⟩ hin a0 x1 a2 _
/-! java/lang/AbstractStringBuilder.append(Ljava/lang/String;)Ljava/lang/AbstractStringBuilder; -/
def fJ5_append_cf1ce (a0 : Nat) (a1 : Nat) (s0 : AS) : Option AR :=
  cK s0 a1 (fJ0_length_8abf5 a1 s0) (qI (fun v1 s2 =>
  gI s2 a0 1 3 (fun v3 =>
  cV s2 a0 1 (fJ5_ensureCapacityInternal_d00df a0 (v3 + v1) s2) (qV (fun s4 =>
  gI s4 a0 1 3 (fun v5 =>
  cV s4 a0 1 (fJ5_putStringAt_47b60 a0 v5 a1 s4) (qV (fun s6 =>
  gI s6 a0 1 3 (fun v7 =>
  sI s6 a0 1 3 (v7 + v1) (fun s8 =>
  some (.inl (some (.ref a0)), s8)))))))))))
set_option maxHeartbeats 4000000 in
theorem oJ5_append_cf1ce {Γ : CX} (C : OKC Γ cJ5_append_cf1ce RJ5 (some (.object "java/lang/AbstractStringBuilder"))) (T : ∀ z ∈ (cx_c Γ).exceptionTable.toList, False) (hn : cx_nL Γ = 3) (hR : cx_fr Γ = 5 ∧ cx_lo Γ = 145) (hin : (cx_meth Γ).name = yJ5_append_cf1ce.name) : ∀ (a0 : Nat) (a1 : Nat) (s0 : AS), OK Γ 0 [(0, .ref a0), (1, .ref a1)] [] (fJ5_append_cf1ce a0 a1 s0) s0 := by
  intro a0 a1 s0
  unfold fJ5_append_cf1ce
  refine ok_aload_n C 1 dJ5_append_cf1ce_0 rfl ?_
  refine ok_ifnonnull C 9 dJ5_append_cf1ce_1 (by decide) ?_
  refine ok_aload_n C 1 dJ5_append_cf1ce_9 rfl ?_
  refine ok_callK C T [] (F := fJ0_length_8abf5 a1) (ctJ0_length_8abf5 (C.2.2.2.2.2.2.2.2.1) a1) vlJ5_32 viJ0_length_8abf5 rfl rfl (by rw [hR.1, hR.2]; decide) (Nat.le_of_ble_eq_true rfl) dJ5_append_cf1ce_10 (ok_qI fun v1 s2 => ?_)
  refine ok_istore_n C (i := 2) [(2, .int v1), (0, .ref a0), (1, .ref a1)] dJ5_append_cf1ce_13 rfl (by rw [hn]; decide) rfl ?_
  refine ok_aload_n C 1 dJ5_append_cf1ce_14 rfl ?_
  refine ok_aload_n C 1 dJ5_append_cf1ce_15 rfl ?_
  refine ok_getI C frJ5_79_1 dJ5_append_cf1ce_16 (fun v3 => ?_)
  refine ok_iload_n C 0 dJ5_append_cf1ce_19 rfl ?_
  refine ok_iadd C dJ5_append_cf1ce_20 ?_
  refine ok_callU C T [.int (v3 + v1)] (F := fJ5_ensureCapacityInternal_d00df a0 (v3 + v1)) (ctJ5_ensureCapacityInternal_d00df (C.2.2.2.2.2.2.2.2.1) a0 (v3 + v1)) unJ5_100 rfl (by decide) rfl (by rw [hR.1, hR.2]; decide) (Nat.le_of_ble_eq_true rfl) dJ5_append_cf1ce_21 (ok_qV fun s4 => ?_)
  refine ok_aload_n C 1 dJ5_append_cf1ce_24 rfl ?_
  refine ok_aload_n C 1 dJ5_append_cf1ce_25 rfl ?_
  refine ok_getI C frJ5_79_1 dJ5_append_cf1ce_26 (fun v5 => ?_)
  refine ok_aload_n C 2 dJ5_append_cf1ce_29 rfl ?_
  refine ok_callU C T [.int v5, .ref a1] (F := fJ5_putStringAt_47b60 a0 v5 a1) (ctJ5_putStringAt_47b60 (C.2.2.2.2.2.2.2.2.1) a0 v5 a1) unJ5_208 rfl (by decide) rfl (by rw [hR.1, hR.2]; decide) (Nat.le_of_ble_eq_true rfl) dJ5_append_cf1ce_30 (ok_qV fun s6 => ?_)
  refine ok_aload_n C 1 dJ5_append_cf1ce_33 rfl ?_
  refine ok_dup C dJ5_append_cf1ce_34 rfl ?_
  refine ok_getI C frJ5_79_1 dJ5_append_cf1ce_35 (fun v7 => ?_)
  refine ok_iload_n C 0 dJ5_append_cf1ce_38 rfl ?_
  refine ok_iadd C dJ5_append_cf1ce_39 ?_
  refine ok_putI C flJ5_79_1 dJ5_append_cf1ce_40 (fun s8 _ => ?_)
  refine ok_aload_n C 1 dJ5_append_cf1ce_43 rfl ?_
  exact ok_areturn C (by first | exact Or.inl ⟨_, rfl⟩ | exact Or.inr ⟨_, rfl⟩) dJ5_append_cf1ce_44
theorem ctJ5_append_cf1ce {l : Launch} (hl : l.stackTraces = false) {D : va_G} {dA : Nat → ClassId} {B0 : Nat} (a0 : Nat) (a1 : Nat) : Ct l D dA B0 yJ5_append_cf1ce (.code yJ5_append_cf1ce cJ5_append_cf1ce 3 (some (.object "java/lang/AbstractStringBuilder")) :: ax_ALL) 5 145 [.ref a0, .ref a1] (fJ5_append_cf1ce a0 a1) :=
  Ct.of hl (by decide +kernel) (Nat.le_of_ble_eq_true rfl) fun Γ C _ _ _ _ e5 e6 e7 T hin => oJ5_append_cf1ce C T e5 ⟨e6, e7⟩ hin a0 a1 _
/-! java/lang/StringBuilder.append(Ljava/lang/String;)Ljava/lang/StringBuilder; -/
def fJ4_append_15ec4 (a0 : Nat) (a1 : Nat) (s0 : AS) : Option AR :=
  cV s0 a0 1 (fJ5_append_cf1ce a0 a1 s0) (qR (fun q1 s2 =>
  some (.inl (some (.ref a0)), s2)))
set_option maxHeartbeats 4000000 in
theorem oJ4_append_15ec4 {Γ : CX} (C : OKC Γ cJ4_append_15ec4 RJ4 (some (.object "java/lang/StringBuilder"))) (T : ∀ z ∈ (cx_c Γ).exceptionTable.toList, False) (hn : cx_nL Γ = 2) (hR : cx_fr Γ = 6 ∧ cx_lo Γ = 167) (hin : (cx_meth Γ).name = yJ4_append_15ec4.name) : ∀ (a0 : Nat) (a1 : Nat) (s0 : AS), OK Γ 0 [(0, .ref a0), (1, .ref a1)] [] (fJ4_append_15ec4 a0 a1 s0) s0 := by
  intro a0 a1 s0
  unfold fJ4_append_15ec4
  refine ok_aload_n C 0 dJ4_append_15ec4_0 rfl ?_
  refine ok_aload_n C 1 dJ4_append_15ec4_1 rfl ?_
  refine ok_callSU C T [.ref a1] (F := fJ5_append_cf1ce a0 a1) (ctJ5_append_cf1ce (C.2.2.2.2.2.2.2.2.1) a0 a1) suJ4_29 rfl (by decide) rfl (by rw [hR.1, hR.2]; decide) (Nat.le_of_ble_eq_true rfl) dJ4_append_15ec4_2 (ok_qR fun q1 s2 => ?_)
  refine ok_pop C dJ4_append_15ec4_5 rfl ?_
  refine ok_aload_n C 0 dJ4_append_15ec4_6 rfl ?_
  exact ok_areturn C (by first | exact Or.inl ⟨_, rfl⟩ | exact Or.inr ⟨_, rfl⟩) dJ4_append_15ec4_7
theorem ctJ4_append_15ec4 {l : Launch} (hl : l.stackTraces = false) {D : va_G} {dA : Nat → ClassId} {B0 : Nat} (a0 : Nat) (a1 : Nat) : Ct l D dA B0 yJ4_append_15ec4 (.code yJ4_append_15ec4 cJ4_append_15ec4 2 (some (.object "java/lang/StringBuilder")) :: ax_ALL) 6 167 [.ref a0, .ref a1] (fJ4_append_15ec4 a0 a1) :=
  Ct.of hl (by decide +kernel) (Nat.le_of_ble_eq_true rfl) fun Γ C _ _ _ _ e5 e6 e7 T hin => oJ4_append_15ec4 C T e5 ⟨e6, e7⟩ hin a0 a1 _
/-! java/lang/StringBuilder.append(Ljava/lang/String;)Ljava/lang/AbstractStringBuilder; -/
def fJ4_append_cf1ce (a0 : Nat) (a1 : Nat) (s0 : AS) : Option AR :=
  cV s0 a0 1 (fJ4_append_15ec4 a0 a1 s0) (qR (fun q1 s2 =>
  some (.inl (some (.ref q1)), s2)))
set_option maxHeartbeats 4000000 in
theorem oJ4_append_cf1ce {Γ : CX} (C : OKC Γ cJ4_append_cf1ce RJ4 (some (.object "java/lang/AbstractStringBuilder"))) (T : ∀ z ∈ (cx_c Γ).exceptionTable.toList, False) (hn : cx_nL Γ = 2) (hR : cx_fr Γ = 7 ∧ cx_lo Γ = 188) (hin : (cx_meth Γ).name = yJ4_append_cf1ce.name) : ∀ (a0 : Nat) (a1 : Nat) (s0 : AS), OK Γ 0 [(0, .ref a0), (1, .ref a1)] [] (fJ4_append_cf1ce a0 a1 s0) s0 := by
  intro a0 a1 s0
  unfold fJ4_append_cf1ce
  refine ok_aload_n C 0 dJ4_append_cf1ce_0 rfl ?_
  refine ok_aload_n C 1 dJ4_append_cf1ce_1 rfl ?_
  refine ok_callV C T [.ref a1] (F := fJ4_append_15ec4 a0 a1) (ctJ4_append_15ec4 (C.2.2.2.2.2.2.2.2.1) a0 a1) vlJ4_23 viJ4_append_15ec4 rfl rfl (by decide) rfl (by rw [hR.1, hR.2]; decide) (Nat.le_of_ble_eq_true rfl) dJ4_append_cf1ce_2 (ok_qR fun q1 s2 => ?_)
  exact ok_areturn C (by first | exact Or.inl ⟨_, rfl⟩ | exact Or.inr ⟨_, rfl⟩) dJ4_append_cf1ce_5
theorem ctJ4_append_cf1ce {l : Launch} (hl : l.stackTraces = false) {D : va_G} {dA : Nat → ClassId} {B0 : Nat} (a0 : Nat) (a1 : Nat) : Ct l D dA B0 yJ4_append_cf1ce (.code yJ4_append_cf1ce cJ4_append_cf1ce 2 (some (.object "java/lang/AbstractStringBuilder")) :: ax_ALL) 7 188 [.ref a0, .ref a1] (fJ4_append_cf1ce a0 a1) :=
  Ct.of hl (by decide +kernel) (Nat.le_of_ble_eq_true rfl) fun Γ C _ _ _ _ e5 e6 e7 T hin => oJ4_append_cf1ce C T e5 ⟨e6, e7⟩ hin a0 a1 _
/-! java/lang/AbstractStringBuilder.<init>(Ljava/lang/String;)V -/
def fJ5_init_a7421_53  (a0 : Nat) (a1 : Nat) (t0 : Nat) (t1 : Nat) (s0 : AS) : Option AR :=
  sR s0 t0 1 0 t1 (fun s1 =>
  cV s1 a0 1 (fJ4_append_cf1ce a0 a1 s1) (qR (fun q2 s3 =>
  some (.inl none, s3))))
def fJ5_init_a7421_24  (a0 : Nat) (a1 : Nat) (t0 : Int32) (s0 : AS) : Option AR :=
  cK s0 a1 (fJ0_coder_7d493 a1 s0) (qI (fun v1 s2 =>
  sB s2 a0 1 1 v1 (fun s3 =>
  if v1 = 0 then (
    nA s3 103 t0 (fun q4 s5 =>
    fJ5_init_a7421_53 a0 a1 a0 q4 s5))
  else (
    none))))
def fJ5_init_a7421 (a0 : Nat) (a1 : Nat) (s0 : AS) : Option AR :=
  cK s0 a1 (fJ0_length_8abf5 a1 s0) (qI (fun v1 s2 =>
  if (2147483631 : Int32) ≤ v1 then (
    fJ5_init_a7421_24 a0 a1 2147483647 s2)
  else (
    fJ5_init_a7421_24 a0 a1 (v1 + 16) s2)))
set_option maxHeartbeats 4000000 in
theorem oJ5_init_a7421_53 {Γ : CX} (C : OKC Γ cJ5_init_a7421 RJ5 none) (T : ∀ z ∈ (cx_c Γ).exceptionTable.toList, False) (hn : cx_nL Γ = 5) (hR : cx_fr Γ = 8 ∧ cx_lo Γ = 209) (hin : (cx_meth Γ).name = yJ5_init_a7421.name) : ∀ (a0 : Nat) (a1 : Nat) (t0 : Nat) (t1 : Nat) (s0 : AS), OK Γ 53 [(0, .ref a0), (1, .ref a1)] [.ref t1, .ref t0] (fJ5_init_a7421_53  a0 a1 t0 t1 s0) s0 := by
  intro a0 a1 t0 t1 s0
  unfold fJ5_init_a7421_53
  refine ok_putR C flJ5_15_1 (by first | exact Or.inl ⟨_, rfl⟩ | exact Or.inr ⟨_, rfl⟩) dJ5_init_a7421_53 (fun s1 _ => ?_)
  refine ok_aload_n C 0 dJ5_init_a7421_56 rfl ?_
  refine ok_aload_n C 1 dJ5_init_a7421_57 rfl ?_
  refine ok_callU2 C T [.ref a1] (F := fJ4_append_cf1ce a0 a1) (ctJ4_append_cf1ce (C.2.2.2.2.2.2.2.2.1) a0 a1) u2J5_43 rfl (by decide) rfl (by rw [hR.1, hR.2]; decide) (Nat.le_of_ble_eq_true rfl) dJ5_init_a7421_58 (ok_qR fun q2 s3 => ?_)
  refine ok_pop C dJ5_init_a7421_61 rfl ?_
  exact ok_vreturn C dJ5_init_a7421_62
set_option maxHeartbeats 4000000 in
theorem oJ5_init_a7421_24 {Γ : CX} (C : OKC Γ cJ5_init_a7421 RJ5 none) (T : ∀ z ∈ (cx_c Γ).exceptionTable.toList, False) (hn : cx_nL Γ = 5) (hR : cx_fr Γ = 8 ∧ cx_lo Γ = 209) (hin : (cx_meth Γ).name = yJ5_init_a7421.name) : ∀ (a0 : Nat) (a1 : Nat) (t0 : Int32) (s0 : AS), OK Γ 24 [(0, .ref a0), (1, .ref a1)] [.int t0] (fJ5_init_a7421_24  a0 a1 t0 s0) s0 := by
  intro a0 a1 t0 s0
  unfold fJ5_init_a7421_24
  refine ok_istore_n C (i := 3) [(3, .int t0), (0, .ref a0), (1, .ref a1)] dJ5_init_a7421_24 rfl (by rw [hn]; decide) rfl ?_
  refine ok_aload_n C 2 dJ5_init_a7421_25 rfl ?_
  refine ok_callK C T [] (F := fJ0_coder_7d493 a1) (ctJ0_coder_7d493 (C.2.2.2.2.2.2.2.2.1) a1) vlJ5_40 viJ0_coder_7d493 rfl rfl (by rw [hR.1, hR.2]; decide) (Nat.le_of_ble_eq_true rfl) dJ5_init_a7421_26 (ok_qI fun v1 s2 => ?_)
  refine ok_istore C (i := 4) [(4, .int v1), (3, .int t0), (0, .ref a0), (1, .ref a1)] dJ5_init_a7421_29 (by rw [hn]; decide) rfl ?_
  refine ok_aload_n C 2 dJ5_init_a7421_31 rfl ?_
  refine ok_iload C 0 dJ5_init_a7421_32 rfl ?_
  refine ok_putB C flJ5_22_1 dJ5_init_a7421_34 (fun s3 _ => ?_)
  refine ok_aload_n C 2 dJ5_init_a7421_37 rfl ?_
  refine ok_iload C 0 dJ5_init_a7421_38 rfl ?_
  refine ok_if_ne C 49 dJ5_init_a7421_40 (by decide) ?_ ?_
  · refine ok_iload_n C 1 dJ5_init_a7421_49 rfl ?_
    exact OK.none
  · refine ok_iload_n C 1 dJ5_init_a7421_43 rfl ?_
    refine ok_newB C kw_51 dJ5_init_a7421_44 (fun q4 s5 => ?_)
    refine ok_goto C 53 dJ5_init_a7421_46 (by decide) ?_
    refine OK.sub (lv' := [(0, .ref a0), (1, .ref a1)]) [2, 3] rfl ?_
    exact oJ5_init_a7421_53 C T hn hR hin a0 a1 a0 q4 s5
set_option maxHeartbeats 4000000 in
theorem oJ5_init_a7421 {Γ : CX} (C : OKC Γ cJ5_init_a7421 RJ5 none) (T : ∀ z ∈ (cx_c Γ).exceptionTable.toList, False) (hn : cx_nL Γ = 5) (hR : cx_fr Γ = 8 ∧ cx_lo Γ = 209) (hin : (cx_meth Γ).name = yJ5_init_a7421.name) : ∀ (a0 : Nat) (a1 : Nat) (s0 : AS), OK Γ 0 [(0, .ref a0), (1, .ref a1)] [] (fJ5_init_a7421 a0 a1 s0) s0 := by
  intro a0 a1 s0
  unfold fJ5_init_a7421
  refine ok_aload_n C 0 dJ5_init_a7421_0 rfl ?_
  refine ok_objInit C kw_47 kw_48 kw_49 (by rw [hR.1]; decide) (by rw [hR.2]; exact Nat.le_of_ble_eq_true rfl) dJ5_init_a7421_1 ?_
  refine ok_aload_n C 1 dJ5_init_a7421_4 rfl ?_
  refine ok_callK C T [] (F := fJ0_length_8abf5 a1) (ctJ0_length_8abf5 (C.2.2.2.2.2.2.2.2.1) a1) vlJ5_32 viJ0_length_8abf5 rfl rfl (by rw [hR.1, hR.2]; decide) (Nat.le_of_ble_eq_true rfl) dJ5_init_a7421_5 (ok_qI fun v1 s2 => ?_)
  refine ok_istore_n C (i := 2) [(2, .int v1), (0, .ref a0), (1, .ref a1)] dJ5_init_a7421_8 rfl (by rw [hn]; decide) rfl ?_
  refine ok_iload_n C 0 dJ5_init_a7421_9 rfl ?_
  refine ok_ldc C (v := 2147483631) kw_705 dJ5_init_a7421_10 ?_
  refine ok_icmp_ge C 22 dJ5_init_a7421_12 (by decide) ?_ ?_
  · refine ok_ldc C (v := 2147483647) kw_68 dJ5_init_a7421_22 ?_
    refine OK.sub (lv' := [(0, .ref a0), (1, .ref a1)]) [1, 2] rfl ?_
    exact oJ5_init_a7421_24 C T hn hR hin a0 a1 2147483647 s2
  · refine ok_iload_n C 0 dJ5_init_a7421_15 rfl ?_
    refine ok_bipush C (v := 16) dJ5_init_a7421_16 (by decide) ?_
    refine ok_iadd C dJ5_init_a7421_18 ?_
    refine ok_goto C 24 dJ5_init_a7421_19 (by decide) ?_
    refine OK.sub (lv' := [(0, .ref a0), (1, .ref a1)]) [1, 2] rfl ?_
    exact oJ5_init_a7421_24 C T hn hR hin a0 a1 (v1 + 16) s2
theorem ctJ5_init_a7421 {l : Launch} (hl : l.stackTraces = false) {D : va_G} {dA : Nat → ClassId} {B0 : Nat} (a0 : Nat) (a1 : Nat) : Ct l D dA B0 yJ5_init_a7421 (.code yJ5_init_a7421 cJ5_init_a7421 5 (none) :: ax_ALL) 8 209 [.ref a0, .ref a1] (fJ5_init_a7421 a0 a1) :=
  Ct.of hl (by decide +kernel) (Nat.le_of_ble_eq_true rfl) fun Γ C _ _ _ _ e5 e6 e7 T hin => oJ5_init_a7421 C T e5 ⟨e6, e7⟩ hin a0 a1 _
/-! java/lang/StringBuilder.<init>(Ljava/lang/String;)V -/
def fJ4_init_a7421 (a0 : Nat) (a1 : Nat) (s0 : AS) : Option AR :=
  cS s0 (fJ5_init_a7421 a0 a1 s0) (qV (fun s1 =>
  some (.inl none, s1)))
set_option maxHeartbeats 4000000 in
theorem oJ4_init_a7421 {Γ : CX} (C : OKC Γ cJ4_init_a7421 RJ4 none) (T : ∀ z ∈ (cx_c Γ).exceptionTable.toList, False) (hn : cx_nL Γ = 2) (hR : cx_fr Γ = 9 ∧ cx_lo Γ = 233) (hin : (cx_meth Γ).name = yJ4_init_a7421.name) : ∀ (a0 : Nat) (a1 : Nat) (s0 : AS), OK Γ 0 [(0, .ref a0), (1, .ref a1)] [] (fJ4_init_a7421 a0 a1 s0) s0 := by
  intro a0 a1 s0
  unfold fJ4_init_a7421
  refine ok_aload_n C 0 dJ4_init_a7421_0 rfl ?_
  refine ok_aload_n C 1 dJ4_init_a7421_1 rfl ?_
  refine ok_callI C T [.ref a1] (F := fJ5_init_a7421 a0 a1) (ctJ5_init_a7421 (C.2.2.2.2.2.2.2.2.1) a0 a1) vlJ4_7 kw_734 rfl rfl (by rw [hR.1, hR.2]; decide) (Nat.le_of_ble_eq_true rfl) dJ4_init_a7421_2 (ok_qV fun s1 => ?_)
  exact ok_vreturn C dJ4_init_a7421_5
theorem ctJ4_init_a7421 {l : Launch} (hl : l.stackTraces = false) {D : va_G} {dA : Nat → ClassId} {B0 : Nat} (a0 : Nat) (a1 : Nat) : Ct l D dA B0 yJ4_init_a7421 (.code yJ4_init_a7421 cJ4_init_a7421 2 (none) :: ax_ALL) 9 233 [.ref a0, .ref a1] (fJ4_init_a7421 a0 a1) :=
  Ct.of hl (by decide +kernel) (Nat.le_of_ble_eq_true rfl) fun Γ C _ _ _ _ e5 e6 e7 T hin => oJ4_init_a7421 C T e5 ⟨e6, e7⟩ hin a0 a1 _
/-! java/lang/AbstractStringBuilder.getValue()[B -/
def fJ5_getValue_6d5f1 (a0 : Nat) (s0 : AS) : Option AR :=
  gR s0 a0 1 0 (fun q1 =>
  some (.inl (some (.ref q1)), s0))
set_option maxHeartbeats 4000000 in
theorem oJ5_getValue_6d5f1 {Γ : CX} (C : OKC Γ cJ5_getValue_6d5f1 RJ5 (some (.array .byte))) (T : ∀ z ∈ (cx_c Γ).exceptionTable.toList, False) (hn : cx_nL Γ = 1) (hR : cx_fr Γ = 1 ∧ cx_lo Γ = 60) (hin : (cx_meth Γ).name = yJ5_getValue_6d5f1.name) : ∀ (a0 : Nat) (s0 : AS), OK Γ 0 [(0, .ref a0)] [] (fJ5_getValue_6d5f1 a0 s0) s0 := by
  intro a0 s0
  unfold fJ5_getValue_6d5f1
  refine ok_aload_n C 0 dJ5_getValue_6d5f1_0 rfl ?_
  refine ok_getR C frJ5_15_1 dJ5_getValue_6d5f1_1 (fun q1 => ?_)
  exact ok_areturn C (by first | exact Or.inl ⟨_, rfl⟩ | exact Or.inr ⟨_, rfl⟩) dJ5_getValue_6d5f1_4
theorem ctJ5_getValue_6d5f1 {l : Launch} (hl : l.stackTraces = false) {D : va_G} {dA : Nat → ClassId} {B0 : Nat} (a0 : Nat) : Ct l D dA B0 yJ5_getValue_6d5f1 (.code yJ5_getValue_6d5f1 cJ5_getValue_6d5f1 1 (some (.array .byte)) :: ax_ALL) 1 60 [.ref a0] (fJ5_getValue_6d5f1 a0) :=
  Ct.of hl (by decide +kernel) (Nat.le_of_ble_eq_true rfl) fun Γ C _ _ _ _ e5 e6 e7 T hin => oJ5_getValue_6d5f1 C T e5 ⟨e6, e7⟩ hin a0 _
/-! java/util/Arrays.checkLength(II)V -/
def fJ7_checkLength_df160 (x0 : Int32) (x1 : Int32) (s0 : AS) : Option AR :=
  if x0 ≤ x1 then (
    some (.inl none, s0))
  else (
    none)
set_option maxHeartbeats 4000000 in
theorem oJ7_checkLength_df160 {Γ : CX} (C : OKC Γ cJ7_checkLength_df160 RJ7 none) (T : ∀ z ∈ (cx_c Γ).exceptionTable.toList, False) (hn : cx_nL Γ = 2) (hR : cx_fr Γ = 1 ∧ cx_lo Γ = 60) (hin : (cx_meth Γ).name = yJ7_checkLength_df160.name) : ∀ (x0 : Int32) (x1 : Int32) (s0 : AS), OK Γ 0 [(0, .int x0), (1, .int x1)] [] (fJ7_checkLength_df160 x0 x1 s0) s0 := by
  intro x0 x1 s0
  unfold fJ7_checkLength_df160
  refine ok_iload_n C 1 dJ7_checkLength_df160_0 rfl ?_
  refine ok_iload_n C 0 dJ7_checkLength_df160_1 rfl ?_
  refine ok_icmp_ge C 37 dJ7_checkLength_df160_2 (by decide) ?_ ?_
  · exact ok_vreturn C dJ7_checkLength_df160_37
  · exact OK.none
theorem ctJ7_checkLength_df160 {l : Launch} (hl : l.stackTraces = false) {D : va_G} {dA : Nat → ClassId} {B0 : Nat} (x0 : Int32) (x1 : Int32) : Ct l D dA B0 yJ7_checkLength_df160 (.code yJ7_checkLength_df160 cJ7_checkLength_df160 2 (none) :: ax_ALL) 1 60 [.int x0, .int x1] (fJ7_checkLength_df160 x0 x1) :=
  Ct.of hl (by decide +kernel) (Nat.le_of_ble_eq_true rfl) fun Γ C _ _ _ _ e5 e6 e7 T hin => oJ7_checkLength_df160 C T e5 ⟨e6, e7⟩ hin x0 x1 _
/-! java/util/Arrays.copyOfRangeByte([BII)[B -/
def fJ7_copyOfRangeByte_39247 (a0 : Nat) (x1 : Int32) (x2 : Int32) (s0 : AS) : Option AR :=
  cS s0 (fJ7_checkLength_df160 x1 x2 s0) (qV (fun s1 =>
  lt (x2 - x1) (fun v2 =>
  nA s1 103 v2 (fun q3 s4 =>
  aL s4 a0 103 (fun v5 =>
  lt (if v2 < (v5 - x1) then v2 else (v5 - x1)) (fun v6 =>
  cpI 103 .byte s4 a0 x1 q3 0 v6 (fun s7 =>
  some (.inl (some (.ref q3)), s7))))))))
set_option maxHeartbeats 4000000 in
theorem oJ7_copyOfRangeByte_39247 {Γ : CX} (C : OKC Γ cJ7_copyOfRangeByte_39247 RJ7 (some (.array .byte))) (T : ∀ z ∈ (cx_c Γ).exceptionTable.toList, False) (hn : cx_nL Γ = 5) (hR : cx_fr Γ = 2 ∧ cx_lo Γ = 100) (hin : (cx_meth Γ).name = yJ7_copyOfRangeByte_39247.name) : ∀ (a0 : Nat) (x1 : Int32) (x2 : Int32) (s0 : AS), OK Γ 0 [(0, .ref a0), (1, .int x1), (2, .int x2)] [] (fJ7_copyOfRangeByte_39247 a0 x1 x2 s0) s0 := by
  intro a0 x1 x2 s0
  unfold fJ7_copyOfRangeByte_39247
  refine ok_iload_n C 1 dJ7_copyOfRangeByte_39247_0 rfl ?_
  refine ok_iload_n C 2 dJ7_copyOfRangeByte_39247_1 rfl ?_
  refine ok_callS C T [.int x1, .int x2] (F := fJ7_checkLength_df160 x1 x2) (ctJ7_checkLength_df160 (C.2.2.2.2.2.2.2.2.1) x1 x2) vlJ7_343 kw_748 rfl (by rw [hR.1, hR.2]; decide) (Nat.le_of_ble_eq_true rfl) dJ7_copyOfRangeByte_39247_2 (ok_qV fun s1 => ?_)
  refine ok_iload_n C 2 dJ7_copyOfRangeByte_39247_5 rfl ?_
  refine ok_iload_n C 1 dJ7_copyOfRangeByte_39247_6 rfl ?_
  refine ok_isub C dJ7_copyOfRangeByte_39247_7 ?_
  refine ok_lt (fun v2 => ?_)
  refine ok_istore_n C (i := 3) [(3, .int v2), (0, .ref a0), (1, .int x1), (2, .int x2)] dJ7_copyOfRangeByte_39247_8 rfl (by rw [hn]; decide) rfl ?_
  refine ok_iload_n C 0 dJ7_copyOfRangeByte_39247_9 rfl ?_
  refine ok_newB C kw_51 dJ7_copyOfRangeByte_39247_10 (fun q3 s4 => ?_)
  refine ok_astore C (i := 4) [(4, .ref q3), (3, .int v2), (0, .ref a0), (1, .int x1), (2, .int x2)] dJ7_copyOfRangeByte_39247_12 (by rw [hn]; decide) rfl ?_
  refine ok_aload_n C 2 dJ7_copyOfRangeByte_39247_14 rfl ?_
  refine ok_iload_n C 3 dJ7_copyOfRangeByte_39247_15 rfl ?_
  refine ok_aload C 0 dJ7_copyOfRangeByte_39247_16 rfl ?_
  refine ok_iconst C (v := 0) dJ7_copyOfRangeByte_39247_18 (by decide) ?_
  refine ok_aload_n C 2 dJ7_copyOfRangeByte_39247_19 rfl ?_
  refine ok_alen C 103 3 (fun _ => rfl) (by decide) dJ7_copyOfRangeByte_39247_20 (fun v5 => ?_)
  refine ok_iload_n C 3 dJ7_copyOfRangeByte_39247_21 rfl ?_
  refine ok_isub C dJ7_copyOfRangeByte_39247_22 ?_
  refine ok_iload_n C 1 dJ7_copyOfRangeByte_39247_23 rfl ?_
  refine ok_mmin C mlJ7_304 (by rw [hR.1]; decide) (by rw [hR.2]; exact Nat.le_of_ble_eq_true rfl) dJ7_copyOfRangeByte_39247_24 ?_
  refine ok_lt (fun v6 => ?_)
  refine ok_copyI C 103 3 clJ7_150 (fun _ => rfl) rfl (by decide) (by decide) (by decide) (by decide) (by rw [hR.1]; decide) (by rw [hR.2]; exact Nat.le_of_ble_eq_true rfl) dJ7_copyOfRangeByte_39247_27 (fun s7 => ?_)
  refine ok_aload C 0 dJ7_copyOfRangeByte_39247_30 rfl ?_
  exact ok_areturn C (by first | exact Or.inl ⟨_, rfl⟩ | exact Or.inr ⟨_, rfl⟩) dJ7_copyOfRangeByte_39247_32
theorem ctJ7_copyOfRangeByte_39247 {l : Launch} (hl : l.stackTraces = false) {D : va_G} {dA : Nat → ClassId} {B0 : Nat} (a0 : Nat) (x1 : Int32) (x2 : Int32) : Ct l D dA B0 yJ7_copyOfRangeByte_39247 (.code yJ7_copyOfRangeByte_39247 cJ7_copyOfRangeByte_39247 5 (some (.array .byte)) :: ax_ALL) 2 100 [.ref a0, .int x1, .int x2] (fJ7_copyOfRangeByte_39247 a0 x1 x2) :=
  Ct.of hl (by decide +kernel) (Nat.le_of_ble_eq_true rfl) fun Γ C _ _ _ _ e5 e6 e7 T hin => oJ7_copyOfRangeByte_39247 C T e5 ⟨e6, e7⟩ hin a0 x1 x2 _
/-! java/util/Arrays.copyOfRange([BII)[B -/
def fJ7_copyOfRange_39247_10  (a0 : Nat) (x1 : Int32) (x2 : Int32) (s0 : AS) : Option AR :=
  cS s0 (fJ7_copyOfRangeByte_39247 a0 x1 x2 s0) (qR (fun q1 s2 =>
  some (.inl (some (.ref q1)), s2)))
def fJ7_copyOfRange_39247 (a0 : Nat) (x1 : Int32) (x2 : Int32) (s0 : AS) : Option AR :=
  if x1 = 0 then (
    aL s0 a0 103 (fun v1 =>
    if x2 = v1 then (
      nCl s0 a0 (fun q2 s3 =>
      some (.inl (some (.ref q2)), s3)))
    else (
      fJ7_copyOfRange_39247_10 a0 x1 x2 s0)))
  else (
    fJ7_copyOfRange_39247_10 a0 x1 x2 s0)
set_option maxHeartbeats 4000000 in
theorem oJ7_copyOfRange_39247_10 {Γ : CX} (C : OKC Γ cJ7_copyOfRange_39247 RJ7 (some (.array .byte))) (T : ∀ z ∈ (cx_c Γ).exceptionTable.toList, False) (hn : cx_nL Γ = 3) (hR : cx_fr Γ = 3 ∧ cx_lo Γ = 124) (hin : (cx_meth Γ).name = yJ7_copyOfRange_39247.name) : ∀ (a0 : Nat) (x1 : Int32) (x2 : Int32) (s0 : AS), OK Γ 10 [(0, .ref a0), (1, .int x1), (2, .int x2)] [] (fJ7_copyOfRange_39247_10  a0 x1 x2 s0) s0 := by
  intro a0 x1 x2 s0
  unfold fJ7_copyOfRange_39247_10
  refine ok_aload_n C 0 dJ7_copyOfRange_39247_10 rfl ?_
  refine ok_iload_n C 1 dJ7_copyOfRange_39247_11 rfl ?_
  refine ok_iload_n C 2 dJ7_copyOfRange_39247_12 rfl ?_
  refine ok_callS C T [.ref a0, .int x1, .int x2] (F := fJ7_copyOfRangeByte_39247 a0 x1 x2) (ctJ7_copyOfRangeByte_39247 (C.2.2.2.2.2.2.2.2.1) a0 x1 x2) vlJ7_339 kw_751 rfl (by rw [hR.1, hR.2]; decide) (Nat.le_of_ble_eq_true rfl) dJ7_copyOfRange_39247_13 (ok_qR fun q1 s2 => ?_)
  exact ok_areturn C (by first | exact Or.inl ⟨_, rfl⟩ | exact Or.inr ⟨_, rfl⟩) dJ7_copyOfRange_39247_16
set_option maxHeartbeats 4000000 in
theorem oJ7_copyOfRange_39247 {Γ : CX} (C : OKC Γ cJ7_copyOfRange_39247 RJ7 (some (.array .byte))) (T : ∀ z ∈ (cx_c Γ).exceptionTable.toList, False) (hn : cx_nL Γ = 3) (hR : cx_fr Γ = 3 ∧ cx_lo Γ = 124) (hin : (cx_meth Γ).name = yJ7_copyOfRange_39247.name) : ∀ (a0 : Nat) (x1 : Int32) (x2 : Int32) (s0 : AS), OK Γ 0 [(0, .ref a0), (1, .int x1), (2, .int x2)] [] (fJ7_copyOfRange_39247 a0 x1 x2 s0) s0 := by
  intro a0 x1 x2 s0
  unfold fJ7_copyOfRange_39247
  refine ok_iload_n C 1 dJ7_copyOfRange_39247_0 rfl ?_
  refine ok_if_ne C 10 dJ7_copyOfRange_39247_1 (by decide) ?_ ?_
  · exact oJ7_copyOfRange_39247_10 C T hn hR hin a0 x1 x2 s0
  · refine ok_iload_n C 2 dJ7_copyOfRange_39247_4 rfl ?_
    refine ok_aload_n C 0 dJ7_copyOfRange_39247_5 rfl ?_
    refine ok_alen C 103 3 (fun _ => rfl) (by decide) dJ7_copyOfRange_39247_6 (fun v1 => ?_)
    refine ok_icmp_eq C 17 dJ7_copyOfRange_39247_7 (by decide) ?_ ?_
    · refine ok_aload_n C 0 dJ7_copyOfRange_39247_17 rfl ?_
      refine ok_cloneB C kw_752 kw_753 kw_754 kw_755 kw_756 kw_757 (by rw [hR.1]; decide) (by rw [hR.2]; exact Nat.le_of_ble_eq_true rfl) dJ7_copyOfRange_39247_18 dJ7_copyOfRange_39247_21 (fun q2 s3 => ?_)
      exact ok_areturn C (by first | exact Or.inl ⟨_, rfl⟩ | exact Or.inr ⟨_, rfl⟩) dJ7_copyOfRange_39247_24
    · exact oJ7_copyOfRange_39247_10 C T hn hR hin a0 x1 x2 s0
theorem ctJ7_copyOfRange_39247 {l : Launch} (hl : l.stackTraces = false) {D : va_G} {dA : Nat → ClassId} {B0 : Nat} (a0 : Nat) (x1 : Int32) (x2 : Int32) : Ct l D dA B0 yJ7_copyOfRange_39247 (.code yJ7_copyOfRange_39247 cJ7_copyOfRange_39247 3 (some (.array .byte)) :: ax_ALL) 3 124 [.ref a0, .int x1, .int x2] (fJ7_copyOfRange_39247 a0 x1 x2) :=
  Ct.of hl (by decide +kernel) (Nat.le_of_ble_eq_true rfl) fun Γ C _ _ _ _ e5 e6 e7 T hin => oJ7_copyOfRange_39247 C T e5 ⟨e6, e7⟩ hin a0 x1 x2 _
/-! java/lang/String.<init>(Ljava/lang/AbstractStringBuilder;Ljava/lang/Void;)V -/
def fJ0_init_db425_79  (a0 : Nat) (a3 : Nat) (x4 : Int32) (s0 : AS) : Option AR :=
  sB s0 a0 0 1 1 (fun s1 =>
  cS s1 (fJ7_copyOfRange_39247 a3 0 (x4 <<< (1 &&& 31)) s1) (qR (fun q2 s3 =>
  sR s3 a0 0 0 q2 (fun s4 =>
  some (.inl none, s4)))))
def fJ0_init_db425 (a0 : Nat) (a1 : Nat) (s0 : AS) : Option AR :=
  cV s0 a1 1 (fJ5_getValue_6d5f1 a1 s0) (qR (fun q1 s2 =>
  cV s2 a1 1 (fJ4_length_8abf5 a1 s2) (qI (fun v3 s4 =>
  cV s4 a1 1 (fJ5_isLatin1_aae02 a1 s4) (qI (fun v5 s6 =>
  if v5 = 0 then (
    if (1 : Int32) = 0 then (
      fJ0_init_db425_79 a0 q1 v3 s6)
    else (
      gI s6 a1 1 2 (fun v7 =>
      if v7 = 0 then (
        fJ0_init_db425_79 a0 q1 v3 s6)
      else (
        none))))
  else (
    sB s6 a0 0 1 0 (fun s8 =>
    cS s8 (fJ7_copyOfRange_39247 q1 0 v3 s8) (qR (fun q9 s10 =>
    sR s10 a0 0 0 q9 (fun s11 =>
    some (.inl none, s11))))))))))))
set_option maxHeartbeats 4000000 in
theorem oJ0_init_db425_79 {Γ : CX} (C : OKC Γ cJ0_init_db425 RJ0 none) (T : ∀ z ∈ (cx_c Γ).exceptionTable.toList, False) (hn : cx_nL Γ = 5) (hR : cx_fr Γ = 4 ∧ cx_lo Γ = 146) (hin : (cx_meth Γ).name = yJ0_init_db425.name) : ∀ (a0 : Nat) (a3 : Nat) (x4 : Int32) (s0 : AS), OK Γ 79 [(0, .ref a0), (3, .ref a3), (4, .int x4)] [] (fJ0_init_db425_79  a0 a3 x4 s0) s0 := by
  intro a0 a3 x4 s0
  unfold fJ0_init_db425_79
  refine ok_aload_n C 0 dJ0_init_db425_79 rfl ?_
  refine ok_iconst C (v := 1) dJ0_init_db425_80 (by decide) ?_
  refine ok_putBF C flJ0_15_0 hin dJ0_init_db425_81 (fun s1 _ => ?_)
  refine ok_aload_n C 0 dJ0_init_db425_84 rfl ?_
  refine ok_aload_n C 1 dJ0_init_db425_85 rfl ?_
  refine ok_iconst C (v := 0) dJ0_init_db425_86 (by decide) ?_
  refine ok_iload C 2 dJ0_init_db425_87 rfl ?_
  refine ok_iconst C (v := 1) dJ0_init_db425_89 (by decide) ?_
  refine ok_ishl C dJ0_init_db425_90 ?_
  refine ok_callS C T [.ref a3, .int 0, .int (x4 <<< (1 &&& 31))] (F := fJ7_copyOfRange_39247 a3 0 (x4 <<< (1 &&& 31))) (ctJ7_copyOfRange_39247 (C.2.2.2.2.2.2.2.2.1) a3 0 (x4 <<< (1 &&& 31))) vlJ0_54 kw_760 rfl (by rw [hR.1, hR.2]; decide) (Nat.le_of_ble_eq_true rfl) dJ0_init_db425_91 (ok_qR fun q2 s3 => ?_)
  refine ok_putRF C flJ0_9_0 (by first | exact Or.inl ⟨_, rfl⟩ | exact Or.inr ⟨_, rfl⟩) hin dJ0_init_db425_94 (fun s4 _ => ?_)
  exact ok_vreturn C dJ0_init_db425_97
set_option maxHeartbeats 4000000 in
theorem oJ0_init_db425 {Γ : CX} (C : OKC Γ cJ0_init_db425 RJ0 none) (T : ∀ z ∈ (cx_c Γ).exceptionTable.toList, False) (hn : cx_nL Γ = 5) (hR : cx_fr Γ = 4 ∧ cx_lo Γ = 146) (hin : (cx_meth Γ).name = yJ0_init_db425.name) : ∀ (a0 : Nat) (a1 : Nat) (s0 : AS), OK Γ 0 [(0, .ref a0), (1, .ref a1), (2, .null)] [] (fJ0_init_db425 a0 a1 s0) s0 := by
  intro a0 a1 s0
  unfold fJ0_init_db425
  refine ok_aload_n C 0 dJ0_init_db425_0 rfl ?_
  refine ok_objInit C kw_737 kw_48 kw_49 (by rw [hR.1]; decide) (by rw [hR.2]; exact Nat.le_of_ble_eq_true rfl) dJ0_init_db425_1 ?_
  refine ok_aload_n C 1 dJ0_init_db425_4 rfl ?_
  refine ok_callU C T [] (F := fJ5_getValue_6d5f1 a1) (ctJ5_getValue_6d5f1 (C.2.2.2.2.2.2.2.2.1) a1) unJ0_552 rfl (by decide) rfl (by rw [hR.1, hR.2]; decide) (Nat.le_of_ble_eq_true rfl) dJ0_init_db425_5 (ok_qR fun q1 s2 => ?_)
  refine ok_astore_n C (i := 3) [(3, .ref q1), (0, .ref a0), (1, .ref a1), (2, .null)] dJ0_init_db425_8 rfl (by rw [hn]; decide) rfl ?_
  refine ok_aload_n C 2 dJ0_init_db425_9 rfl ?_
  refine ok_callU2 C T [] (F := fJ4_length_8abf5 a1) (ctJ4_length_8abf5 (C.2.2.2.2.2.2.2.2.1) a1) u2J0_549 rfl (by decide) rfl (by rw [hR.1, hR.2]; decide) (Nat.le_of_ble_eq_true rfl) dJ0_init_db425_10 (ok_qI fun v3 s4 => ?_)
  refine ok_istore C (i := 4) [(4, .int v3), (3, .ref q1), (0, .ref a0), (1, .ref a1), (2, .null)] dJ0_init_db425_13 (by rw [hn]; decide) rfl ?_
  refine ok_aload_n C 3 dJ0_init_db425_15 rfl ?_
  refine ok_callU C T [] (F := fJ5_isLatin1_aae02 a1) (ctJ5_isLatin1_aae02 (C.2.2.2.2.2.2.2.2.1) a1) unJ0_1047 rfl (by decide) rfl (by rw [hR.1, hR.2]; decide) (Nat.le_of_ble_eq_true rfl) dJ0_init_db425_16 (ok_qI fun v5 s6 => ?_)
  refine ok_if_eq C 41 dJ0_init_db425_19 (by decide) ?_ ?_
  · refine ok_getCS C kw_25 dJ0_init_db425_41 ?_
    refine ok_if_eq C 79 dJ0_init_db425_44 (by decide) ?_ ?_
    · refine OK.sub (lv' := [(0, .ref a0), (3, .ref q1), (4, .int v3)]) [2, 1, 0] rfl ?_
      exact oJ0_init_db425_79 C T hn hR hin a0 q1 v3 s6
    · refine ok_aload_n C 3 dJ0_init_db425_47 rfl ?_
      refine ok_getI C frJ0_1048_1 dJ0_init_db425_48 (fun v7 => ?_)
      refine ok_if_eq C 79 dJ0_init_db425_51 (by decide) ?_ ?_
      · refine OK.sub (lv' := [(0, .ref a0), (3, .ref q1), (4, .int v3)]) [2, 1, 0] rfl ?_
        exact oJ0_init_db425_79 C T hn hR hin a0 q1 v3 s6
      · refine ok_aload_n C 2 dJ0_init_db425_54 rfl ?_
        refine ok_aload_n C 1 dJ0_init_db425_55 rfl ?_
        refine ok_iconst C (v := 0) dJ0_init_db425_56 (by decide) ?_
        refine ok_iload C 0 dJ0_init_db425_57 rfl ?_
        exact OK.none
  · refine ok_aload_n C 2 dJ0_init_db425_22 rfl ?_
    refine ok_iconst C (v := 0) dJ0_init_db425_23 (by decide) ?_
    refine ok_putBF C flJ0_15_0 hin dJ0_init_db425_24 (fun s8 _ => ?_)
    refine ok_aload_n C 2 dJ0_init_db425_27 rfl ?_
    refine ok_aload_n C 1 dJ0_init_db425_28 rfl ?_
    refine ok_iconst C (v := 0) dJ0_init_db425_29 (by decide) ?_
    refine ok_iload C 0 dJ0_init_db425_30 rfl ?_
    refine ok_callS C T [.ref q1, .int 0, .int v3] (F := fJ7_copyOfRange_39247 q1 0 v3) (ctJ7_copyOfRange_39247 (C.2.2.2.2.2.2.2.2.1) q1 0 v3) vlJ0_54 kw_760 rfl (by rw [hR.1, hR.2]; decide) (Nat.le_of_ble_eq_true rfl) dJ0_init_db425_32 (ok_qR fun q9 s10 => ?_)
    refine ok_putRF C flJ0_9_0 (by first | exact Or.inl ⟨_, rfl⟩ | exact Or.inr ⟨_, rfl⟩) hin dJ0_init_db425_35 (fun s11 _ => ?_)
    refine ok_goto C 97 dJ0_init_db425_38 (by decide) ?_
    exact ok_vreturn C dJ0_init_db425_97
theorem ctJ0_init_db425 {l : Launch} (hl : l.stackTraces = false) {D : va_G} {dA : Nat → ClassId} {B0 : Nat} (a0 : Nat) (a1 : Nat) : Ct l D dA B0 yJ0_init_db425 (.code yJ0_init_db425 cJ0_init_db425 5 (none) :: ax_ALL) 4 146 [.ref a0, .ref a1, .null] (fJ0_init_db425 a0 a1) :=
  Ct.of hl (by decide +kernel) (Nat.le_of_ble_eq_true rfl) fun Γ C _ _ _ _ e5 e6 e7 T hin => oJ0_init_db425 C T e5 ⟨e6, e7⟩ hin a0 a1 _
/-! java/lang/String.<init>(Ljava/lang/StringBuilder;)V -/
def fJ0_init_81219 (a0 : Nat) (a1 : Nat) (s0 : AS) : Option AR :=
  cS s0 (fJ0_init_db425 a0 a1 s0) (qV (fun s1 =>
  some (.inl none, s1)))
set_option maxHeartbeats 4000000 in
theorem oJ0_init_81219 {Γ : CX} (C : OKC Γ cJ0_init_81219 RJ0 none) (T : ∀ z ∈ (cx_c Γ).exceptionTable.toList, False) (hn : cx_nL Γ = 2) (hR : cx_fr Γ = 5 ∧ cx_lo Γ = 170) (hin : (cx_meth Γ).name = yJ0_init_81219.name) : ∀ (a0 : Nat) (a1 : Nat) (s0 : AS), OK Γ 0 [(0, .ref a0), (1, .ref a1)] [] (fJ0_init_81219 a0 a1 s0) s0 := by
  intro a0 a1 s0
  unfold fJ0_init_81219
  refine ok_aload_n C 0 dJ0_init_81219_0 rfl ?_
  refine ok_aload_n C 1 dJ0_init_81219_1 rfl ?_
  refine ok_null C dJ0_init_81219_2 ?_
  refine ok_callI C T [.ref a1, .null] (F := fJ0_init_db425 a0 a1) (ctJ0_init_db425 (C.2.2.2.2.2.2.2.2.1) a0 a1) vlJ0_489 kw_763 rfl rfl (by rw [hR.1, hR.2]; decide) (Nat.le_of_ble_eq_true rfl) dJ0_init_81219_3 (ok_qV fun s1 => ?_)
  exact ok_vreturn C dJ0_init_81219_6
theorem ctJ0_init_81219 {l : Launch} (hl : l.stackTraces = false) {D : va_G} {dA : Nat → ClassId} {B0 : Nat} (a0 : Nat) (a1 : Nat) : Ct l D dA B0 yJ0_init_81219 (.code yJ0_init_81219 cJ0_init_81219 2 (none) :: ax_ALL) 5 170 [.ref a0, .ref a1] (fJ0_init_81219 a0 a1) :=
  Ct.of hl (by decide +kernel) (Nat.le_of_ble_eq_true rfl) fun Γ C _ _ _ _ e5 e6 e7 T hin => oJ0_init_81219 C T e5 ⟨e6, e7⟩ hin a0 a1 _
/-! java/lang/StringBuilder.toString()Ljava/lang/String; -/
def fJ4_toString_0e30d (a0 : Nat) (s0 : AS) : Option AR :=
  nO s0 0 4 (fun q1 s2 =>
  cS s2 (fJ0_init_81219 q1 a0 s2) (qV (fun s3 =>
  some (.inl (some (.ref q1)), s3))))
set_option maxHeartbeats 4000000 in
theorem oJ4_toString_0e30d {Γ : CX} (C : OKC Γ cJ4_toString_0e30d RJ4 (some (.object "java/lang/String"))) (T : ∀ z ∈ (cx_c Γ).exceptionTable.toList, False) (hn : cx_nL Γ = 1) (hR : cx_fr Γ = 6 ∧ cx_lo Γ = 191) (hin : (cx_meth Γ).name = yJ4_toString_0e30d.name) : ∀ (a0 : Nat) (s0 : AS), OK Γ 0 [(0, .ref a0)] [] (fJ4_toString_0e30d a0 s0) s0 := by
  intro a0 s0
  unfold fJ4_toString_0e30d
  refine ok_new C (C0 := RJ0) ax_DF0 ⟨_, rfl⟩ kw_736 dJ4_toString_0e30d_0 (fun q1 s2 => ?_)
  refine ok_dup C dJ4_toString_0e30d_3 rfl ?_
  refine ok_aload_n C 0 dJ4_toString_0e30d_4 rfl ?_
  refine ok_callI C T [.ref a0] (F := fJ0_init_81219 q1 a0) (ctJ0_init_81219 (C.2.2.2.2.2.2.2.2.1) q1 a0) vlJ4_137 kw_766 rfl rfl (by rw [hR.1, hR.2]; decide) (Nat.le_of_ble_eq_true rfl) dJ4_toString_0e30d_5 (ok_qV fun s3 => ?_)
  exact ok_areturn C (by first | exact Or.inl ⟨_, rfl⟩ | exact Or.inr ⟨_, rfl⟩) dJ4_toString_0e30d_8
theorem ctJ4_toString_0e30d {l : Launch} (hl : l.stackTraces = false) {D : va_G} {dA : Nat → ClassId} {B0 : Nat} (a0 : Nat) : Ct l D dA B0 yJ4_toString_0e30d (.code yJ4_toString_0e30d cJ4_toString_0e30d 1 (some (.object "java/lang/String")) :: ax_ALL) 6 191 [.ref a0] (fJ4_toString_0e30d a0) :=
  Ct.of hl (by decide +kernel) (Nat.le_of_ble_eq_true rfl) fun Γ C _ _ _ _ e5 e6 e7 T hin => oJ4_toString_0e30d C T e5 ⟨e6, e7⟩ hin a0 _
/-! java/lang/String.coder()B -/
def fJ0_coder_7d493D (a0 : Nat) (s0 : AS) : Option AR :=
  if (1 : Int32) = 0 then (
    rB 1 s0)
  else (
    gI s0 a0 0 1 (fun v1 =>
    rB v1 s0))
set_option maxHeartbeats 4000000 in
theorem oJ0_coder_7d493D {Γ : CX} (C : OKC Γ cJ0_coder_7d493 RJ0 (some (.byte))) (T : ∀ z ∈ (cx_c Γ).exceptionTable.toList, False) (hn : cx_nL Γ = 1) (hR : cx_fr Γ = 1 ∧ cx_lo Γ = 60) (hin : (cx_meth Γ).name = yJ0_coder_7d493.name) : ∀ (a0 : Nat) (s0 : AS), OK Γ 0 [(0, .ref a0)] [] (fJ0_coder_7d493D a0 s0) s0 := by
  intro a0 s0
  unfold fJ0_coder_7d493D
  refine ok_getCS C kw_25 dJ0_coder_7d493_0 ?_
  refine ok_if_eq C 13 dJ0_coder_7d493_3 (by decide) ?_ ?_
  · refine ok_iconst C (v := 1) dJ0_coder_7d493_13 (by decide) ?_
    exact ok_breturn C dJ0_coder_7d493_14
  · refine ok_aload_n C 0 dJ0_coder_7d493_6 rfl ?_
    refine ok_getI C frJ0_15_0 dJ0_coder_7d493_7 (fun v1 => ?_)
    refine ok_goto C 14 dJ0_coder_7d493_10 (by decide) ?_
    exact ok_breturn C dJ0_coder_7d493_14
theorem ctJ0_coder_7d493D {l : Launch} (hl : l.stackTraces = false) {D : va_G} {dA : Nat → ClassId} {B0 : Nat} (a0 : Nat) : Ct l D dA B0 yJ0_coder_7d493 (.code yJ0_coder_7d493 cJ0_coder_7d493 1 (some (.byte)) :: ax_ALL) 1 60 [.ref a0] (fJ0_coder_7d493D a0) :=
  Ct.of hl (by decide +kernel) (Nat.le_of_ble_eq_true rfl) fun Γ C _ _ _ _ e5 e6 e7 T hin => oJ0_coder_7d493D C T e5 ⟨e6, e7⟩ hin a0 _
/-! java/lang/String.length()I -/
def fJ0_length_8abf5D (a0 : Nat) (s0 : AS) : Option AR :=
  gR s0 a0 0 0 (fun q1 =>
  aL s0 q1 103 (fun v2 =>
  cV s0 a0 0 (fJ0_coder_7d493D a0 s0) (qI (fun v3 s4 =>
  some (.inl (some (.int (v2 >>> (v3 &&& 31)))), s4)))))
set_option maxHeartbeats 4000000 in
theorem oJ0_length_8abf5D {Γ : CX} (C : OKC Γ cJ0_length_8abf5 RJ0 (some (.int))) (T : ∀ z ∈ (cx_c Γ).exceptionTable.toList, False) (hn : cx_nL Γ = 1) (hR : cx_fr Γ = 2 ∧ cx_lo Γ = 80) (hin : (cx_meth Γ).name = yJ0_length_8abf5.name) : ∀ (a0 : Nat) (s0 : AS), OK Γ 0 [(0, .ref a0)] [] (fJ0_length_8abf5D a0 s0) s0 := by
  intro a0 s0
  unfold fJ0_length_8abf5D
  refine ok_aload_n C 0 dJ0_length_8abf5_0 rfl ?_
  refine ok_getR C frJ0_9_0 dJ0_length_8abf5_1 (fun q1 => ?_)
  refine ok_alen C 103 3 (fun _ => rfl) (by decide) dJ0_length_8abf5_4 (fun v2 => ?_)
  refine ok_aload_n C 0 dJ0_length_8abf5_5 rfl ?_
  refine ok_callV C T [] (F := fJ0_coder_7d493D a0) (ctJ0_coder_7d493D (C.2.2.2.2.2.2.2.2.1) a0) vlJ0_335 viJ0_coder_7d493 rfl rfl (by decide) rfl (by rw [hR.1, hR.2]; decide) (Nat.le_of_ble_eq_true rfl) dJ0_length_8abf5_6 (ok_qI fun v3 s4 => ?_)
  refine ok_ishr C dJ0_length_8abf5_9 ?_
  exact ok_ireturn C dJ0_length_8abf5_10
theorem ctJ0_length_8abf5D {l : Launch} (hl : l.stackTraces = false) {D : va_G} {dA : Nat → ClassId} {B0 : Nat} (a0 : Nat) : Ct l D dA B0 yJ0_length_8abf5 (.code yJ0_length_8abf5 cJ0_length_8abf5 1 (some (.int)) :: ax_ALL) 2 80 [.ref a0] (fJ0_length_8abf5D a0) :=
  Ct.of hl (by decide +kernel) (Nat.le_of_ble_eq_true rfl) fun Γ C _ _ _ _ e5 e6 e7 T hin => oJ0_length_8abf5D C T e5 ⟨e6, e7⟩ hin a0 _
/-! java/lang/String.isLatin1()Z -/
def fJ0_isLatin1_aae02D (a0 : Nat) (s0 : AS) : Option AR :=
  if (1 : Int32) = 0 then (
    rZ 0 s0)
  else (
    gI s0 a0 0 1 (fun v1 =>
    if v1 = 0 then (
      rZ 1 s0)
    else (
      rZ 0 s0)))
set_option maxHeartbeats 4000000 in
theorem oJ0_isLatin1_aae02D {Γ : CX} (C : OKC Γ cJ0_isLatin1_aae02 RJ0 (some (.boolean))) (T : ∀ z ∈ (cx_c Γ).exceptionTable.toList, False) (hn : cx_nL Γ = 1) (hR : cx_fr Γ = 1 ∧ cx_lo Γ = 60) (hin : (cx_meth Γ).name = yJ0_isLatin1_aae02.name) : ∀ (a0 : Nat) (s0 : AS), OK Γ 0 [(0, .ref a0)] [] (fJ0_isLatin1_aae02D a0 s0) s0 := by
  intro a0 s0
  unfold fJ0_isLatin1_aae02D
  refine ok_getCS C kw_25 dJ0_isLatin1_aae02_0 ?_
  refine ok_if_eq C 17 dJ0_isLatin1_aae02_3 (by decide) ?_ ?_
  · refine ok_iconst C (v := 0) dJ0_isLatin1_aae02_17 (by decide) ?_
    exact ok_zreturn C dJ0_isLatin1_aae02_18
  · refine ok_aload_n C 0 dJ0_isLatin1_aae02_6 rfl ?_
    refine ok_getI C frJ0_15_0 dJ0_isLatin1_aae02_7 (fun v1 => ?_)
    refine ok_if_ne C 17 dJ0_isLatin1_aae02_10 (by decide) ?_ ?_
    · refine ok_iconst C (v := 0) dJ0_isLatin1_aae02_17 (by decide) ?_
      exact ok_zreturn C dJ0_isLatin1_aae02_18
    · refine ok_iconst C (v := 1) dJ0_isLatin1_aae02_13 (by decide) ?_
      refine ok_goto C 18 dJ0_isLatin1_aae02_14 (by decide) ?_
      exact ok_zreturn C dJ0_isLatin1_aae02_18
theorem ctJ0_isLatin1_aae02D {l : Launch} (hl : l.stackTraces = false) {D : va_G} {dA : Nat → ClassId} {B0 : Nat} (a0 : Nat) : Ct l D dA B0 yJ0_isLatin1_aae02 (.code yJ0_isLatin1_aae02 cJ0_isLatin1_aae02 1 (some (.boolean)) :: ax_ALL) 1 60 [.ref a0] (fJ0_isLatin1_aae02D a0) :=
  Ct.of hl (by decide +kernel) (Nat.le_of_ble_eq_true rfl) fun Γ C _ _ _ _ e5 e6 e7 T hin => oJ0_isLatin1_aae02D C T e5 ⟨e6, e7⟩ hin a0 _
/-! java/lang/StringLatin1.charAt([BI)C -/
def fJ1_charAt_3b067D (a0 : Nat) (x1 : Int32) (s0 : AS) : Option AR :=
  aL s0 a0 103 (fun v1 =>
  cS s0 (fJ0_checkIndex_df160 x1 v1 s0) (qV (fun s2 =>
  aI s2 a0 103 x1 (fun v3 =>
  rC (((v3 &&& 255).toUInt32 % 65536).toInt32) s2))))
set_option maxHeartbeats 4000000 in
theorem oJ1_charAt_3b067D {Γ : CX} (C : OKC Γ cJ1_charAt_3b067 RJ1 (some (.char))) (T : ∀ z ∈ (cx_c Γ).exceptionTable.toList, False) (hn : cx_nL Γ = 2) (hR : cx_fr Γ = 3 ∧ cx_lo Γ = 103) (hin : (cx_meth Γ).name = yJ1_charAt_3b067.name) : ∀ (a0 : Nat) (x1 : Int32) (s0 : AS), OK Γ 0 [(0, .ref a0), (1, .int x1)] [] (fJ1_charAt_3b067D a0 x1 s0) s0 := by
  intro a0 x1 s0
  unfold fJ1_charAt_3b067D
  refine ok_iload_n C 1 dJ1_charAt_3b067_0 rfl ?_
  refine ok_aload_n C 0 dJ1_charAt_3b067_1 rfl ?_
  refine ok_alen C 103 3 (fun _ => rfl) (by decide) dJ1_charAt_3b067_2 (fun v1 => ?_)
  refine ok_callS C T [.int x1, .int v1] (F := fJ0_checkIndex_df160 x1 v1) (ctJ0_checkIndex_df160 (C.2.2.2.2.2.2.2.2.1) x1 v1) vlJ1_9 kw_42 rfl (by rw [hR.1, hR.2]; decide) (Nat.le_of_ble_eq_true rfl) dJ1_charAt_3b067_3 (ok_qV fun s2 => ?_)
  refine ok_aload_n C 0 dJ1_charAt_3b067_6 rfl ?_
  refine ok_iload_n C 1 dJ1_charAt_3b067_7 rfl ?_
  refine ok_bald C dJ1_charAt_3b067_8 (fun v3 => ?_)
  refine ok_sipush C (v := 255) dJ1_charAt_3b067_9 (by decide) ?_
  refine ok_iand C dJ1_charAt_3b067_12 ?_
  refine ok_i2c C dJ1_charAt_3b067_13 ?_
  exact ok_creturn C dJ1_charAt_3b067_14
theorem ctJ1_charAt_3b067D {l : Launch} (hl : l.stackTraces = false) {D : va_G} {dA : Nat → ClassId} {B0 : Nat} (a0 : Nat) (x1 : Int32) : Ct l D dA B0 yJ1_charAt_3b067 (.code yJ1_charAt_3b067 cJ1_charAt_3b067 2 (some (.char)) :: ax_ALL) 3 103 [.ref a0, .int x1] (fJ1_charAt_3b067D a0 x1) :=
  Ct.of hl (by decide +kernel) (Nat.le_of_ble_eq_true rfl) fun Γ C _ _ _ _ e5 e6 e7 T hin => oJ1_charAt_3b067D C T e5 ⟨e6, e7⟩ hin a0 x1 _
/-! java/lang/String.charAt(I)C -/
def fJ0_charAt_5068eD (a0 : Nat) (x1 : Int32) (s0 : AS) : Option AR :=
  cV s0 a0 0 (fJ0_isLatin1_aae02D a0 s0) (qI (fun v1 s2 =>
  if v1 = 0 then (
    gR s2 a0 0 0 (fun q3 =>
    none))
  else (
    gR s2 a0 0 0 (fun q4 =>
    cS s2 (fJ1_charAt_3b067D q4 x1 s2) (qI (fun v5 s6 =>
    rC v5 s6))))))
set_option maxHeartbeats 4000000 in
theorem oJ0_charAt_5068eD {Γ : CX} (C : OKC Γ cJ0_charAt_5068e RJ0 (some (.char))) (T : ∀ z ∈ (cx_c Γ).exceptionTable.toList, False) (hn : cx_nL Γ = 2) (hR : cx_fr Γ = 4 ∧ cx_lo Γ = 124) (hin : (cx_meth Γ).name = yJ0_charAt_5068e.name) : ∀ (a0 : Nat) (x1 : Int32) (s0 : AS), OK Γ 0 [(0, .ref a0), (1, .int x1)] [] (fJ0_charAt_5068eD a0 x1 s0) s0 := by
  intro a0 x1 s0
  unfold fJ0_charAt_5068eD
  refine ok_aload_n C 0 dJ0_charAt_5068e_0 rfl ?_
  refine ok_callV C T [] (F := fJ0_isLatin1_aae02D a0) (ctJ0_isLatin1_aae02D (C.2.2.2.2.2.2.2.2.1) a0) vlJ0_492 viJ0_isLatin1_aae02 rfl rfl (by decide) rfl (by rw [hR.1, hR.2]; decide) (Nat.le_of_ble_eq_true rfl) dJ0_charAt_5068e_1 (ok_qI fun v1 s2 => ?_)
  refine ok_if_eq C 16 dJ0_charAt_5068e_4 (by decide) ?_ ?_
  · refine ok_aload_n C 0 dJ0_charAt_5068e_16 rfl ?_
    refine ok_getR C frJ0_9_0 dJ0_charAt_5068e_17 (fun q3 => ?_)
    refine ok_iload_n C 1 dJ0_charAt_5068e_20 rfl ?_
    exact OK.none
  · refine ok_aload_n C 0 dJ0_charAt_5068e_7 rfl ?_
    refine ok_getR C frJ0_9_0 dJ0_charAt_5068e_8 (fun q4 => ?_)
    refine ok_iload_n C 1 dJ0_charAt_5068e_11 rfl ?_
    refine ok_callS C T [.ref q4, .int x1] (F := fJ1_charAt_3b067D q4 x1) (ctJ1_charAt_3b067D (C.2.2.2.2.2.2.2.2.1) q4 x1) vlJ0_495 kw_46 rfl (by rw [hR.1, hR.2]; decide) (Nat.le_of_ble_eq_true rfl) dJ0_charAt_5068e_12 (ok_qI fun v5 s6 => ?_)
    exact ok_creturn C dJ0_charAt_5068e_15
theorem ctJ0_charAt_5068eD {l : Launch} (hl : l.stackTraces = false) {D : va_G} {dA : Nat → ClassId} {B0 : Nat} (a0 : Nat) (x1 : Int32) : Ct l D dA B0 yJ0_charAt_5068e (.code yJ0_charAt_5068e cJ0_charAt_5068e 2 (some (.char)) :: ax_ALL) 4 124 [.ref a0, .int x1] (fJ0_charAt_5068eD a0 x1) :=
  Ct.of hl (by decide +kernel) (Nat.le_of_ble_eq_true rfl) fun Γ C _ _ _ _ e5 e6 e7 T hin => oJ0_charAt_5068eD C T e5 ⟨e6, e7⟩ hin a0 x1 _
/-! jdk/internal/util/Preconditions.checkFromToIndex(IIILjava/util/function/BiFunction;)I -/
def fJ3_checkFromToIndex_8c36e_14  (x0 : Int32) (x1 : Int32) (x2 : Int32) (a3 : Nat) (s0 : AS) : Option AR :=
  none
def fJ3_checkFromToIndex_8c36e (x0 : Int32) (x1 : Int32) (x2 : Int32) (a3 : Nat) (s0 : AS) : Option AR :=
  if x0 < 0 then (
    fJ3_checkFromToIndex_8c36e_14 x0 x1 x2 a3 s0)
  else (
    if x1 < x0 then (
      fJ3_checkFromToIndex_8c36e_14 x0 x1 x2 a3 s0)
    else (
      if x1 ≤ x2 then (
        some (.inl (some (.int x0)), s0))
      else (
        fJ3_checkFromToIndex_8c36e_14 x0 x1 x2 a3 s0)))
set_option maxHeartbeats 4000000 in
theorem oJ3_checkFromToIndex_8c36e_14 {Γ : CX} (C : OKC Γ cJ3_checkFromToIndex_8c36e RJ3 (some (.int))) (T : ∀ z ∈ (cx_c Γ).exceptionTable.toList, False) (hn : cx_nL Γ = 4) (hR : cx_fr Γ = 1 ∧ cx_lo Γ = 60) (hin : (cx_meth Γ).name = yJ3_checkFromToIndex_8c36e.name) : ∀ (x0 : Int32) (x1 : Int32) (x2 : Int32) (a3 : Nat) (s0 : AS), OK Γ 14 [(0, .int x0), (1, .int x1), (2, .int x2), (3, .ref a3)] [] (fJ3_checkFromToIndex_8c36e_14  x0 x1 x2 a3 s0) s0 := by
  intro x0 x1 x2 a3 s0
  unfold fJ3_checkFromToIndex_8c36e_14
  refine ok_aload_n C 3 dJ3_checkFromToIndex_8c36e_14 rfl ?_
  refine ok_iload_n C 0 dJ3_checkFromToIndex_8c36e_15 rfl ?_
  refine ok_iload_n C 1 dJ3_checkFromToIndex_8c36e_16 rfl ?_
  refine ok_iload_n C 2 dJ3_checkFromToIndex_8c36e_17 rfl ?_
  exact OK.none
set_option maxHeartbeats 4000000 in
theorem oJ3_checkFromToIndex_8c36e {Γ : CX} (C : OKC Γ cJ3_checkFromToIndex_8c36e RJ3 (some (.int))) (T : ∀ z ∈ (cx_c Γ).exceptionTable.toList, False) (hn : cx_nL Γ = 4) (hR : cx_fr Γ = 1 ∧ cx_lo Γ = 60) (hin : (cx_meth Γ).name = yJ3_checkFromToIndex_8c36e.name) : ∀ (x0 : Int32) (x1 : Int32) (x2 : Int32) (a3 : Nat) (s0 : AS), OK Γ 0 [(0, .int x0), (1, .int x1), (2, .int x2), (3, .ref a3)] [] (fJ3_checkFromToIndex_8c36e x0 x1 x2 a3 s0) s0 := by
  intro x0 x1 x2 a3 s0
  unfold fJ3_checkFromToIndex_8c36e
  refine ok_iload_n C 0 dJ3_checkFromToIndex_8c36e_0 rfl ?_
  refine ok_if_lt C 14 dJ3_checkFromToIndex_8c36e_1 (by decide) ?_ ?_
  · exact oJ3_checkFromToIndex_8c36e_14 C T hn hR hin x0 x1 x2 a3 s0
  · refine ok_iload_n C 0 dJ3_checkFromToIndex_8c36e_4 rfl ?_
    refine ok_iload_n C 1 dJ3_checkFromToIndex_8c36e_5 rfl ?_
    refine ok_icmp_gt C 14 dJ3_checkFromToIndex_8c36e_6 (by decide) ?_ ?_
    · exact oJ3_checkFromToIndex_8c36e_14 C T hn hR hin x0 x1 x2 a3 s0
    · refine ok_iload_n C 1 dJ3_checkFromToIndex_8c36e_9 rfl ?_
      refine ok_iload_n C 2 dJ3_checkFromToIndex_8c36e_10 rfl ?_
      refine ok_icmp_le C 22 dJ3_checkFromToIndex_8c36e_11 (by decide) ?_ ?_
      · refine ok_iload_n C 0 dJ3_checkFromToIndex_8c36e_22 rfl ?_
        exact ok_ireturn C dJ3_checkFromToIndex_8c36e_23
      · exact oJ3_checkFromToIndex_8c36e_14 C T hn hR hin x0 x1 x2 a3 s0
theorem ctJ3_checkFromToIndex_8c36e {l : Launch} (hl : l.stackTraces = false) {D : va_G} {dA : Nat → ClassId} {B0 : Nat} (x0 : Int32) (x1 : Int32) (x2 : Int32) (a3 : Nat) : Ct l D dA B0 yJ3_checkFromToIndex_8c36e (.code yJ3_checkFromToIndex_8c36e cJ3_checkFromToIndex_8c36e 4 (some (.int)) :: ax_ALL) 1 60 [.int x0, .int x1, .int x2, .ref a3] (fJ3_checkFromToIndex_8c36e x0 x1 x2 a3) :=
  Ct.of hl (by decide +kernel) (Nat.le_of_ble_eq_true rfl) fun Γ C _ _ _ _ e5 e6 e7 T hin => oJ3_checkFromToIndex_8c36e C T e5 ⟨e6, e7⟩ hin x0 x1 x2 a3 _
theorem ctJ3_checkFromToIndex_null {l : Launch} (hl : l.stackTraces = false) {D : va_G} {dA : Nat → ClassId} {B0 : Nat} (x0 : Int32) (x1 : Int32) (x2 : Int32) : Ct l D dA B0 yJ3_checkFromToIndex_8c36e (.code yJ3_checkFromToIndex_8c36e cJ3_checkFromToIndex_8c36e 4 (some (.int)) :: ax_ALL) 1 60 [.int x0, .int x1, .int x2, .null] (fJ3_checkFromToIndex_8c36e x0 x1 x2 4000000) :=
  Ct.of hl (by decide +kernel) (Nat.le_of_ble_eq_true rfl) fun Γ C _ _ _ _ e5 e6 e7 T hin => by
    unfold fJ3_checkFromToIndex_8c36e
    refine ok_iload_n C 0 dJ3_checkFromToIndex_8c36e_0 rfl ?_
    refine ok_if_lt C 14 dJ3_checkFromToIndex_8c36e_1 (by decide) ?_ ?_
    · exact OK.none
    · refine ok_iload_n C 0 dJ3_checkFromToIndex_8c36e_4 rfl ?_
      refine ok_iload_n C 1 dJ3_checkFromToIndex_8c36e_5 rfl ?_
      refine ok_icmp_gt C 14 dJ3_checkFromToIndex_8c36e_6 (by decide) ?_ ?_
      · exact OK.none
      · refine ok_iload_n C 1 dJ3_checkFromToIndex_8c36e_9 rfl ?_
        refine ok_iload_n C 2 dJ3_checkFromToIndex_8c36e_10 rfl ?_
        refine ok_icmp_le C 22 dJ3_checkFromToIndex_8c36e_11 (by decide) ?_ ?_
        · refine ok_iload_n C 0 dJ3_checkFromToIndex_8c36e_22 rfl ?_
          exact ok_ireturn C dJ3_checkFromToIndex_8c36e_23
        · exact OK.none
/-! java/lang/String.checkBoundsBeginEnd(III)V -/
def fJ0_checkBoundsBeginEnd_23922 (x0 : Int32) (x1 : Int32) (x2 : Int32) (s0 : AS) : Option AR :=
  cS s0 (fJ3_checkFromToIndex_8c36e x0 x1 x2 4000000 s0) (qI (fun v1 s2 =>
  some (.inl none, s2)))
set_option maxHeartbeats 4000000 in
theorem oJ0_checkBoundsBeginEnd_23922 {Γ : CX} (C : OKC Γ cJ0_checkBoundsBeginEnd_23922 RJ0 none) (T : ∀ z ∈ (cx_c Γ).exceptionTable.toList, False) (hn : cx_nL Γ = 3) (hR : cx_fr Γ = 2 ∧ cx_lo Γ = 83) (hin : (cx_meth Γ).name = yJ0_checkBoundsBeginEnd_23922.name) : ∀ (x0 : Int32) (x1 : Int32) (x2 : Int32) (s0 : AS), OK Γ 0 [(0, .int x0), (1, .int x1), (2, .int x2)] [] (fJ0_checkBoundsBeginEnd_23922 x0 x1 x2 s0) s0 := by
  intro x0 x1 x2 s0
  unfold fJ0_checkBoundsBeginEnd_23922
  refine ok_iload_n C 0 dJ0_checkBoundsBeginEnd_23922_0 rfl ?_
  refine ok_iload_n C 1 dJ0_checkBoundsBeginEnd_23922_1 rfl ?_
  refine ok_iload_n C 2 dJ0_checkBoundsBeginEnd_23922_2 rfl ?_
  refine ok_getSF C kw_35 dJ0_checkBoundsBeginEnd_23922_3 ?_ ?_
  · refine ok_callS C T [.int x0, .int x1, .int x2, .null] (F := fJ3_checkFromToIndex_8c36e x0 x1 x2 4000000) (ctJ3_checkFromToIndex_null (C.2.2.2.2.2.2.2.2.1) x0 x1 x2) vlJ0_1062 kw_771 rfl (by rw [hR.1, hR.2]; decide) (Nat.le_of_ble_eq_true rfl) dJ0_checkBoundsBeginEnd_23922_6 (ok_qI fun v1 s2 => ?_)
    refine ok_pop C dJ0_checkBoundsBeginEnd_23922_9 rfl ?_
    exact ok_vreturn C dJ0_checkBoundsBeginEnd_23922_10
  refine ok_callS C T [.int x0, .int x1, .int x2, .ref 4000000] (F := fJ3_checkFromToIndex_8c36e x0 x1 x2 4000000) (ctJ3_checkFromToIndex_8c36e (C.2.2.2.2.2.2.2.2.1) x0 x1 x2 4000000) vlJ0_1062 kw_771 rfl (by rw [hR.1, hR.2]; decide) (Nat.le_of_ble_eq_true rfl) dJ0_checkBoundsBeginEnd_23922_6 (ok_qI fun v1 s2 => ?_)
  refine ok_pop C dJ0_checkBoundsBeginEnd_23922_9 rfl ?_
  exact ok_vreturn C dJ0_checkBoundsBeginEnd_23922_10
theorem ctJ0_checkBoundsBeginEnd_23922 {l : Launch} (hl : l.stackTraces = false) {D : va_G} {dA : Nat → ClassId} {B0 : Nat} (x0 : Int32) (x1 : Int32) (x2 : Int32) : Ct l D dA B0 yJ0_checkBoundsBeginEnd_23922 (.code yJ0_checkBoundsBeginEnd_23922 cJ0_checkBoundsBeginEnd_23922 3 (none) :: ax_ALL) 2 83 [.int x0, .int x1, .int x2] (fJ0_checkBoundsBeginEnd_23922 x0 x1 x2) :=
  Ct.of hl (by decide +kernel) (Nat.le_of_ble_eq_true rfl) fun Γ C _ _ _ _ e5 e6 e7 T hin => oJ0_checkBoundsBeginEnd_23922 C T e5 ⟨e6, e7⟩ hin x0 x1 x2 _
/-! java/lang/String.<init>([BB)V -/
def fJ0_init_031fb (a0 : Nat) (a1 : Nat) (x2 : Int32) (s0 : AS) : Option AR :=
  sR s0 a0 0 0 a1 (fun s1 =>
  sB s1 a0 0 1 x2 (fun s2 =>
  some (.inl none, s2)))
set_option maxHeartbeats 4000000 in
theorem oJ0_init_031fb {Γ : CX} (C : OKC Γ cJ0_init_031fb RJ0 none) (T : ∀ z ∈ (cx_c Γ).exceptionTable.toList, False) (hn : cx_nL Γ = 3) (hR : cx_fr Γ = 2 ∧ cx_lo Γ = 60) (hin : (cx_meth Γ).name = yJ0_init_031fb.name) : ∀ (a0 : Nat) (a1 : Nat) (x2 : Int32) (s0 : AS), OK Γ 0 [(0, .ref a0), (1, .ref a1), (2, .int x2)] [] (fJ0_init_031fb a0 a1 x2 s0) s0 := by
  intro a0 a1 x2 s0
  unfold fJ0_init_031fb
  refine ok_aload_n C 0 dJ0_init_031fb_0 rfl ?_
  refine ok_objInit C kw_737 kw_48 kw_49 (by rw [hR.1]; decide) (by rw [hR.2]; exact Nat.le_of_ble_eq_true rfl) dJ0_init_031fb_1 ?_
  refine ok_aload_n C 0 dJ0_init_031fb_4 rfl ?_
  refine ok_aload_n C 1 dJ0_init_031fb_5 rfl ?_
  refine ok_putRF C flJ0_9_0 (by first | exact Or.inl ⟨_, rfl⟩ | exact Or.inr ⟨_, rfl⟩) hin dJ0_init_031fb_6 (fun s1 _ => ?_)
  refine ok_aload_n C 0 dJ0_init_031fb_9 rfl ?_
  refine ok_iload_n C 2 dJ0_init_031fb_10 rfl ?_
  refine ok_putBF C flJ0_15_0 hin dJ0_init_031fb_11 (fun s2 _ => ?_)
  exact ok_vreturn C dJ0_init_031fb_14
theorem ctJ0_init_031fb {l : Launch} (hl : l.stackTraces = false) {D : va_G} {dA : Nat → ClassId} {B0 : Nat} (a0 : Nat) (a1 : Nat) (x2 : Int32) : Ct l D dA B0 yJ0_init_031fb (.code yJ0_init_031fb cJ0_init_031fb 3 (none) :: ax_ALL) 2 60 [.ref a0, .ref a1, .int x2] (fJ0_init_031fb a0 a1 x2) :=
  Ct.of hl (by decide +kernel) (Nat.le_of_ble_eq_true rfl) fun Γ C _ _ _ _ e5 e6 e7 T hin => oJ0_init_031fb C T e5 ⟨e6, e7⟩ hin a0 a1 x2 _
/-! java/lang/StringLatin1.newString([BII)Ljava/lang/String; -/
def fJ1_newString_b4f7a (a0 : Nat) (x1 : Int32) (x2 : Int32) (s0 : AS) : Option AR :=
  if x2 = 0 then (
    none)
  else (
    nO s0 0 4 (fun q1 s2 =>
    cS s2 (fJ7_copyOfRange_39247 a0 x1 (x1 + x2) s2) (qR (fun q3 s4 =>
    cS s4 (fJ0_init_031fb q1 q3 0 s4) (qV (fun s5 =>
    some (.inl (some (.ref q1)), s5)))))))
set_option maxHeartbeats 4000000 in
theorem oJ1_newString_b4f7a {Γ : CX} (C : OKC Γ cJ1_newString_b4f7a RJ1 (some (.object "java/lang/String"))) (T : ∀ z ∈ (cx_c Γ).exceptionTable.toList, False) (hn : cx_nL Γ = 3) (hR : cx_fr Γ = 4 ∧ cx_lo Γ = 146) (hin : (cx_meth Γ).name = yJ1_newString_b4f7a.name) : ∀ (a0 : Nat) (x1 : Int32) (x2 : Int32) (s0 : AS), OK Γ 0 [(0, .ref a0), (1, .int x1), (2, .int x2)] [] (fJ1_newString_b4f7a a0 x1 x2 s0) s0 := by
  intro a0 x1 x2 s0
  unfold fJ1_newString_b4f7a
  refine ok_iload_n C 2 dJ1_newString_b4f7a_0 rfl ?_
  refine ok_if_ne C 7 dJ1_newString_b4f7a_1 (by decide) ?_ ?_
  · refine ok_new C (C0 := RJ0) ax_DF0 ⟨_, rfl⟩ kw_775 dJ1_newString_b4f7a_7 (fun q1 s2 => ?_)
    refine ok_dup C dJ1_newString_b4f7a_10 rfl ?_
    refine ok_aload_n C 0 dJ1_newString_b4f7a_11 rfl ?_
    refine ok_iload_n C 1 dJ1_newString_b4f7a_12 rfl ?_
    refine ok_iload_n C 1 dJ1_newString_b4f7a_13 rfl ?_
    refine ok_iload_n C 2 dJ1_newString_b4f7a_14 rfl ?_
    refine ok_iadd C dJ1_newString_b4f7a_15 ?_
    refine ok_callS C T [.ref a0, .int x1, .int (x1 + x2)] (F := fJ7_copyOfRange_39247 a0 x1 (x1 + x2)) (ctJ7_copyOfRange_39247 (C.2.2.2.2.2.2.2.2.1) a0 x1 (x1 + x2)) vlJ1_232 kw_760 rfl (by rw [hR.1, hR.2]; decide) (Nat.le_of_ble_eq_true rfl) dJ1_newString_b4f7a_16 (ok_qR fun q3 s4 => ?_)
    refine ok_iconst C (v := 0) dJ1_newString_b4f7a_19 (by decide) ?_
    refine ok_callI C T [.ref q3, .int 0] (F := fJ0_init_031fb q1 q3 0) (ctJ0_init_031fb (C.2.2.2.2.2.2.2.2.1) q1 q3 0) vlJ1_112 kw_778 rfl rfl (by rw [hR.1, hR.2]; decide) (Nat.le_of_ble_eq_true rfl) dJ1_newString_b4f7a_20 (ok_qV fun s5 => ?_)
    exact ok_areturn C (by first | exact Or.inl ⟨_, rfl⟩ | exact Or.inr ⟨_, rfl⟩) dJ1_newString_b4f7a_23
  · exact OK.none
theorem ctJ1_newString_b4f7a {l : Launch} (hl : l.stackTraces = false) {D : va_G} {dA : Nat → ClassId} {B0 : Nat} (a0 : Nat) (x1 : Int32) (x2 : Int32) : Ct l D dA B0 yJ1_newString_b4f7a (.code yJ1_newString_b4f7a cJ1_newString_b4f7a 3 (some (.object "java/lang/String")) :: ax_ALL) 4 146 [.ref a0, .int x1, .int x2] (fJ1_newString_b4f7a a0 x1 x2) :=
  Ct.of hl (by decide +kernel) (Nat.le_of_ble_eq_true rfl) fun Γ C _ _ _ _ e5 e6 e7 T hin => oJ1_newString_b4f7a C T e5 ⟨e6, e7⟩ hin a0 x1 x2 _
/-! java/lang/String.substring(II)Ljava/lang/String; -/
def fJ0_substring_37a41_22  (a0 : Nat) (x1 : Int32) (x2 : Int32) (s0 : AS) : Option AR :=
  lt (x2 - x1) (fun v1 =>
  cV s0 a0 0 (fJ0_isLatin1_aae02D a0 s0) (qI (fun v2 s3 =>
  if v2 = 0 then (
    gR s3 a0 0 0 (fun q4 =>
    none))
  else (
    gR s3 a0 0 0 (fun q5 =>
    cS s3 (fJ1_newString_b4f7a q5 x1 v1 s3) (qR (fun q6 s7 =>
    some (.inl (some (.ref q6)), s7))))))))
def fJ0_substring_37a41 (a0 : Nat) (x1 : Int32) (x2 : Int32) (s0 : AS) : Option AR :=
  cV s0 a0 0 (fJ0_length_8abf5D a0 s0) (qI (fun v1 s2 =>
  cS s2 (fJ0_checkBoundsBeginEnd_23922 x1 x2 v1 s2) (qV (fun s3 =>
  if x1 = 0 then (
    if x2 = v1 then (
      some (.inl (some (.ref a0)), s3))
    else (
      fJ0_substring_37a41_22 a0 x1 x2 s3))
  else (
    fJ0_substring_37a41_22 a0 x1 x2 s3)))))
set_option maxHeartbeats 4000000 in
theorem oJ0_substring_37a41_22 {Γ : CX} (C : OKC Γ cJ0_substring_37a41 RJ0 (some (.object "java/lang/String"))) (T : ∀ z ∈ (cx_c Γ).exceptionTable.toList, False) (hn : cx_nL Γ = 5) (hR : cx_fr Γ = 5 ∧ cx_lo Γ = 168) (hin : (cx_meth Γ).name = yJ0_substring_37a41.name) : ∀ (a0 : Nat) (x1 : Int32) (x2 : Int32) (s0 : AS), OK Γ 22 [(0, .ref a0), (1, .int x1), (2, .int x2)] [] (fJ0_substring_37a41_22  a0 x1 x2 s0) s0 := by
  intro a0 x1 x2 s0
  unfold fJ0_substring_37a41_22
  refine ok_iload_n C 2 dJ0_substring_37a41_22 rfl ?_
  refine ok_iload_n C 1 dJ0_substring_37a41_23 rfl ?_
  refine ok_isub C dJ0_substring_37a41_24 ?_
  refine ok_lt (fun v1 => ?_)
  refine ok_istore C (i := 4) [(4, .int v1), (0, .ref a0), (1, .int x1), (2, .int x2)] dJ0_substring_37a41_25 (by rw [hn]; decide) rfl ?_
  refine ok_aload_n C 1 dJ0_substring_37a41_27 rfl ?_
  refine ok_callV C T [] (F := fJ0_isLatin1_aae02D a0) (ctJ0_isLatin1_aae02D (C.2.2.2.2.2.2.2.2.1) a0) vlJ0_492 viJ0_isLatin1_aae02 rfl rfl (by decide) rfl (by rw [hR.1, hR.2]; decide) (Nat.le_of_ble_eq_true rfl) dJ0_substring_37a41_28 (ok_qI fun v2 s3 => ?_)
  refine ok_if_eq C 47 dJ0_substring_37a41_31 (by decide) ?_ ?_
  · refine ok_aload_n C 1 dJ0_substring_37a41_47 rfl ?_
    refine ok_getR C frJ0_9_0 dJ0_substring_37a41_48 (fun q4 => ?_)
    refine ok_iload_n C 2 dJ0_substring_37a41_51 rfl ?_
    refine ok_iload C 0 dJ0_substring_37a41_52 rfl ?_
    exact OK.none
  · refine ok_aload_n C 1 dJ0_substring_37a41_34 rfl ?_
    refine ok_getR C frJ0_9_0 dJ0_substring_37a41_35 (fun q5 => ?_)
    refine ok_iload_n C 2 dJ0_substring_37a41_38 rfl ?_
    refine ok_iload C 0 dJ0_substring_37a41_39 rfl ?_
    refine ok_callS C T [.ref q5, .int x1, .int v1] (F := fJ1_newString_b4f7a q5 x1 v1) (ctJ1_newString_b4f7a (C.2.2.2.2.2.2.2.2.1) q5 x1 v1) vlJ0_685 kw_782 rfl (by rw [hR.1, hR.2]; decide) (Nat.le_of_ble_eq_true rfl) dJ0_substring_37a41_41 (ok_qR fun q6 s7 => ?_)
    refine ok_goto C 57 dJ0_substring_37a41_44 (by decide) ?_
    exact ok_areturn C (by first | exact Or.inl ⟨_, rfl⟩ | exact Or.inr ⟨_, rfl⟩) dJ0_substring_37a41_57
set_option maxHeartbeats 4000000 in
theorem oJ0_substring_37a41 {Γ : CX} (C : OKC Γ cJ0_substring_37a41 RJ0 (some (.object "java/lang/String"))) (T : ∀ z ∈ (cx_c Γ).exceptionTable.toList, False) (hn : cx_nL Γ = 5) (hR : cx_fr Γ = 5 ∧ cx_lo Γ = 168) (hin : (cx_meth Γ).name = yJ0_substring_37a41.name) : ∀ (a0 : Nat) (x1 : Int32) (x2 : Int32) (s0 : AS), OK Γ 0 [(0, .ref a0), (1, .int x1), (2, .int x2)] [] (fJ0_substring_37a41 a0 x1 x2 s0) s0 := by
  intro a0 x1 x2 s0
  unfold fJ0_substring_37a41
  refine ok_aload_n C 0 dJ0_substring_37a41_0 rfl ?_
  refine ok_callV C T [] (F := fJ0_length_8abf5D a0) (ctJ0_length_8abf5D (C.2.2.2.2.2.2.2.2.1) a0) vlJ0_505 viJ0_length_8abf5 rfl rfl (by decide) rfl (by rw [hR.1, hR.2]; decide) (Nat.le_of_ble_eq_true rfl) dJ0_substring_37a41_1 (ok_qI fun v1 s2 => ?_)
  refine ok_istore_n C (i := 3) [(3, .int v1), (0, .ref a0), (1, .int x1), (2, .int x2)] dJ0_substring_37a41_4 rfl (by rw [hn]; decide) rfl ?_
  refine ok_iload_n C 2 dJ0_substring_37a41_5 rfl ?_
  refine ok_iload_n C 3 dJ0_substring_37a41_6 rfl ?_
  refine ok_iload_n C 0 dJ0_substring_37a41_7 rfl ?_
  refine ok_callS C T [.int x1, .int x2, .int v1] (F := fJ0_checkBoundsBeginEnd_23922 x1 x2 v1) (ctJ0_checkBoundsBeginEnd_23922 (C.2.2.2.2.2.2.2.2.1) x1 x2 v1) vlJ0_521 kw_774 rfl (by rw [hR.1, hR.2]; decide) (Nat.le_of_ble_eq_true rfl) dJ0_substring_37a41_8 (ok_qV fun s3 => ?_)
  refine ok_iload_n C 2 dJ0_substring_37a41_11 rfl ?_
  refine ok_if_ne C 22 dJ0_substring_37a41_12 (by decide) ?_ ?_
  · refine OK.sub (lv' := [(0, .ref a0), (1, .int x1), (2, .int x2)]) [1, 2, 3] rfl ?_
    exact oJ0_substring_37a41_22 C T hn hR hin a0 x1 x2 s3
  · refine ok_iload_n C 3 dJ0_substring_37a41_15 rfl ?_
    refine ok_iload_n C 0 dJ0_substring_37a41_16 rfl ?_
    refine ok_icmp_ne C 22 dJ0_substring_37a41_17 (by decide) ?_ ?_
    · refine OK.sub (lv' := [(0, .ref a0), (1, .int x1), (2, .int x2)]) [1, 2, 3] rfl ?_
      exact oJ0_substring_37a41_22 C T hn hR hin a0 x1 x2 s3
    · refine ok_aload_n C 1 dJ0_substring_37a41_20 rfl ?_
      exact ok_areturn C (by first | exact Or.inl ⟨_, rfl⟩ | exact Or.inr ⟨_, rfl⟩) dJ0_substring_37a41_21
theorem ctJ0_substring_37a41 {l : Launch} (hl : l.stackTraces = false) {D : va_G} {dA : Nat → ClassId} {B0 : Nat} (a0 : Nat) (x1 : Int32) (x2 : Int32) : Ct l D dA B0 yJ0_substring_37a41 (.code yJ0_substring_37a41 cJ0_substring_37a41 5 (some (.object "java/lang/String")) :: ax_ALL) 5 168 [.ref a0, .int x1, .int x2] (fJ0_substring_37a41 a0 x1 x2) :=
  Ct.of hl (by decide +kernel) (Nat.le_of_ble_eq_true rfl) fun Γ C _ _ _ _ e5 e6 e7 T hin => oJ0_substring_37a41 C T e5 ⟨e6, e7⟩ hin a0 x1 x2 _
/-! java/lang/String.substring(I)Ljava/lang/String; -/
def fJ0_substring_b52d3 (a0 : Nat) (x1 : Int32) (s0 : AS) : Option AR :=
  cV s0 a0 0 (fJ0_length_8abf5D a0 s0) (qI (fun v1 s2 =>
  cV s2 a0 0 (fJ0_substring_37a41 a0 x1 v1 s2) (qR (fun q3 s4 =>
  some (.inl (some (.ref q3)), s4)))))
set_option maxHeartbeats 4000000 in
theorem oJ0_substring_b52d3 {Γ : CX} (C : OKC Γ cJ0_substring_b52d3 RJ0 (some (.object "java/lang/String"))) (T : ∀ z ∈ (cx_c Γ).exceptionTable.toList, False) (hn : cx_nL Γ = 2) (hR : cx_fr Γ = 6 ∧ cx_lo Γ = 192) (hin : (cx_meth Γ).name = yJ0_substring_b52d3.name) : ∀ (a0 : Nat) (x1 : Int32) (s0 : AS), OK Γ 0 [(0, .ref a0), (1, .int x1)] [] (fJ0_substring_b52d3 a0 x1 s0) s0 := by
  intro a0 x1 s0
  unfold fJ0_substring_b52d3
  refine ok_aload_n C 0 dJ0_substring_b52d3_0 rfl ?_
  refine ok_iload_n C 1 dJ0_substring_b52d3_1 rfl ?_
  refine ok_aload_n C 0 dJ0_substring_b52d3_2 rfl ?_
  refine ok_callV C T [] (F := fJ0_length_8abf5D a0) (ctJ0_length_8abf5D (C.2.2.2.2.2.2.2.2.1) a0) vlJ0_505 viJ0_length_8abf5 rfl rfl (by decide) rfl (by rw [hR.1, hR.2]; decide) (Nat.le_of_ble_eq_true rfl) dJ0_substring_b52d3_3 (ok_qI fun v1 s2 => ?_)
  refine ok_callV C T [.int x1, .int v1] (F := fJ0_substring_37a41 a0 x1 v1) (ctJ0_substring_37a41 (C.2.2.2.2.2.2.2.2.1) a0 x1 v1) vlJ0_681 viJ0_substring_37a41 rfl rfl (by decide) rfl (by rw [hR.1, hR.2]; decide) (Nat.le_of_ble_eq_true rfl) dJ0_substring_b52d3_6 (ok_qR fun q3 s4 => ?_)
  exact ok_areturn C (by first | exact Or.inl ⟨_, rfl⟩ | exact Or.inr ⟨_, rfl⟩) dJ0_substring_b52d3_9
theorem ctJ0_substring_b52d3 {l : Launch} (hl : l.stackTraces = false) {D : va_G} {dA : Nat → ClassId} {B0 : Nat} (a0 : Nat) (x1 : Int32) : Ct l D dA B0 yJ0_substring_b52d3 (.code yJ0_substring_b52d3 cJ0_substring_b52d3 2 (some (.object "java/lang/String")) :: ax_ALL) 6 192 [.ref a0, .int x1] (fJ0_substring_b52d3 a0 x1) :=
  Ct.of hl (by decide +kernel) (Nat.le_of_ble_eq_true rfl) fun Γ C _ _ _ _ e5 e6 e7 T hin => oJ0_substring_b52d3 C T e5 ⟨e6, e7⟩ hin a0 x1 _
