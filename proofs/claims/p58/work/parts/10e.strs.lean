/-! java/lang/String.coder()B -/
def fJ0_coder_7d493 (a0 : Nat) (s0 : AS) : Option AR :=
  if (1 : Int32) = 0 then (
    rB 1 s0)
  else (
    sK a0 (
    rB 0 s0))
set_option maxHeartbeats 4000000 in
theorem oJ0_coder_7d493 {Γ : CX} (C : OKC Γ cJ0_coder_7d493 RJ0 (some (.byte))) (T : ∀ z ∈ (cx_c Γ).exceptionTable.toList, False) (hn : cx_nL Γ = 1) (hR : cx_fr Γ = 1 ∧ cx_lo Γ = 60) (hin : (cx_meth Γ).name = yJ0_coder_7d493.name) : ∀ (a0 : Nat) (s0 : AS), OK Γ 0 [(0, .ref a0)] [] (fJ0_coder_7d493 a0 s0) s0 := by
  intro a0 s0
  unfold fJ0_coder_7d493
  refine ok_getCS C kw_25 dJ0_coder_7d493_0 ?_
  refine ok_if_eq C 13 dJ0_coder_7d493_3 (by decide) ?_ ?_
  · refine ok_iconst C (v := 1) dJ0_coder_7d493_13 (by decide) ?_
    exact ok_breturn C dJ0_coder_7d493_14
  · refine ok_aload_n C 0 dJ0_coder_7d493_6 rfl ?_
    refine ok_kcod C kw_26 dJ0_coder_7d493_7 ?_
    refine ok_goto C 14 dJ0_coder_7d493_10 (by decide) ?_
    exact ok_breturn C dJ0_coder_7d493_14
theorem ctJ0_coder_7d493 {l : Launch} (hl : l.stackTraces = false) {D : va_G} {dA : Nat → ClassId} {B0 : Nat} (a0 : Nat) : Ct l D dA B0 yJ0_coder_7d493 (.code yJ0_coder_7d493 cJ0_coder_7d493 1 (some (.byte)) :: ax_ALL) 1 60 [.ref a0] (fJ0_coder_7d493 a0) :=
  Ct.of hl (by decide +kernel) (Nat.le_of_ble_eq_true rfl) fun Γ C _ _ _ _ e5 e6 e7 T hin => oJ0_coder_7d493 C T e5 ⟨e6, e7⟩ hin a0 _
/-! java/lang/String.length()I -/
def fJ0_length_8abf5 (a0 : Nat) (s0 : AS) : Option AR :=
  sK a0 (
  sN ((a0 + 2000000)) (fun v1 =>
  cK s0 a0 (fJ0_coder_7d493 a0 s0) (qI (fun v2 s3 =>
  some (.inl (some (.int (v1 >>> (v2 &&& 31)))), s3)))))
set_option maxHeartbeats 4000000 in
theorem oJ0_length_8abf5 {Γ : CX} (C : OKC Γ cJ0_length_8abf5 RJ0 (some (.int))) (T : ∀ z ∈ (cx_c Γ).exceptionTable.toList, False) (hn : cx_nL Γ = 1) (hR : cx_fr Γ = 2 ∧ cx_lo Γ = 80) (hin : (cx_meth Γ).name = yJ0_length_8abf5.name) : ∀ (a0 : Nat) (s0 : AS), OK Γ 0 [(0, .ref a0)] [] (fJ0_length_8abf5 a0 s0) s0 := by
  intro a0 s0
  unfold fJ0_length_8abf5
  refine ok_aload_n C 0 dJ0_length_8abf5_0 rfl ?_
  refine ok_kval C kw_24 dJ0_length_8abf5_1 ?_
  refine ok_klen C dJ0_length_8abf5_4 (fun v1 => ?_)
  refine ok_aload_n C 0 dJ0_length_8abf5_5 rfl ?_
  refine ok_callK C T [] (F := fJ0_coder_7d493 a0) (ctJ0_coder_7d493 (C.2.2.2.2.2.2.2.2.1) a0) vlJ0_335 viJ0_coder_7d493 rfl rfl (by rw [hR.1, hR.2]; decide) (Nat.le_of_ble_eq_true rfl) dJ0_length_8abf5_6 (ok_qI fun v2 s3 => ?_)
  refine ok_ishr C dJ0_length_8abf5_9 ?_
  exact ok_ireturn C dJ0_length_8abf5_10
theorem ctJ0_length_8abf5 {l : Launch} (hl : l.stackTraces = false) {D : va_G} {dA : Nat → ClassId} {B0 : Nat} (a0 : Nat) : Ct l D dA B0 yJ0_length_8abf5 (.code yJ0_length_8abf5 cJ0_length_8abf5 1 (some (.int)) :: ax_ALL) 2 80 [.ref a0] (fJ0_length_8abf5 a0) :=
  Ct.of hl (by decide +kernel) (Nat.le_of_ble_eq_true rfl) fun Γ C _ _ _ _ e5 e6 e7 T hin => oJ0_length_8abf5 C T e5 ⟨e6, e7⟩ hin a0 _
/-! java/lang/String.isLatin1()Z -/
def fJ0_isLatin1_aae02 (a0 : Nat) (s0 : AS) : Option AR :=
  if (1 : Int32) = 0 then (
    rZ 0 s0)
  else (
    sK a0 (
    if (0 : Int32) = 0 then (
      rZ 1 s0)
    else (
      rZ 0 s0)))
set_option maxHeartbeats 4000000 in
theorem oJ0_isLatin1_aae02 {Γ : CX} (C : OKC Γ cJ0_isLatin1_aae02 RJ0 (some (.boolean))) (T : ∀ z ∈ (cx_c Γ).exceptionTable.toList, False) (hn : cx_nL Γ = 1) (hR : cx_fr Γ = 1 ∧ cx_lo Γ = 60) (hin : (cx_meth Γ).name = yJ0_isLatin1_aae02.name) : ∀ (a0 : Nat) (s0 : AS), OK Γ 0 [(0, .ref a0)] [] (fJ0_isLatin1_aae02 a0 s0) s0 := by
  intro a0 s0
  unfold fJ0_isLatin1_aae02
  refine ok_getCS C kw_25 dJ0_isLatin1_aae02_0 ?_
  refine ok_if_eq C 17 dJ0_isLatin1_aae02_3 (by decide) ?_ ?_
  · refine ok_iconst C (v := 0) dJ0_isLatin1_aae02_17 (by decide) ?_
    exact ok_zreturn C dJ0_isLatin1_aae02_18
  · refine ok_aload_n C 0 dJ0_isLatin1_aae02_6 rfl ?_
    refine ok_kcod C kw_26 dJ0_isLatin1_aae02_7 ?_
    refine ok_if_ne C 17 dJ0_isLatin1_aae02_10 (by decide) ?_ ?_
    · refine ok_iconst C (v := 0) dJ0_isLatin1_aae02_17 (by decide) ?_
      exact ok_zreturn C dJ0_isLatin1_aae02_18
    · refine ok_iconst C (v := 1) dJ0_isLatin1_aae02_13 (by decide) ?_
      refine ok_goto C 18 dJ0_isLatin1_aae02_14 (by decide) ?_
      exact ok_zreturn C dJ0_isLatin1_aae02_18
theorem ctJ0_isLatin1_aae02 {l : Launch} (hl : l.stackTraces = false) {D : va_G} {dA : Nat → ClassId} {B0 : Nat} (a0 : Nat) : Ct l D dA B0 yJ0_isLatin1_aae02 (.code yJ0_isLatin1_aae02 cJ0_isLatin1_aae02 1 (some (.boolean)) :: ax_ALL) 1 60 [.ref a0] (fJ0_isLatin1_aae02 a0) :=
  Ct.of hl (by decide +kernel) (Nat.le_of_ble_eq_true rfl) fun Γ C _ _ _ _ e5 e6 e7 T hin => oJ0_isLatin1_aae02 C T e5 ⟨e6, e7⟩ hin a0 _
/-! jdk/internal/util/Preconditions.checkIndex(IILjava/util/function/BiFunction;)I -/
def fJ3_checkIndex_8e157_9  (x0 : Int32) (x1 : Int32) (a2 : Nat) (s0 : AS) : Option AR :=
  none
def fJ3_checkIndex_8e157 (x0 : Int32) (x1 : Int32) (a2 : Nat) (s0 : AS) : Option AR :=
  if x0 < 0 then (
    fJ3_checkIndex_8e157_9 x0 x1 a2 s0)
  else (
    if x0 < x1 then (
      some (.inl (some (.int x0)), s0))
    else (
      fJ3_checkIndex_8e157_9 x0 x1 a2 s0))
set_option maxHeartbeats 4000000 in
theorem oJ3_checkIndex_8e157_9 {Γ : CX} (C : OKC Γ cJ3_checkIndex_8e157 RJ3 (some (.int))) (T : ∀ z ∈ (cx_c Γ).exceptionTable.toList, False) (hn : cx_nL Γ = 3) (hR : cx_fr Γ = 1 ∧ cx_lo Γ = 60) (hin : (cx_meth Γ).name = yJ3_checkIndex_8e157.name) : ∀ (x0 : Int32) (x1 : Int32) (a2 : Nat) (s0 : AS), OK Γ 9 [(0, .int x0), (1, .int x1), (2, .ref a2)] [] (fJ3_checkIndex_8e157_9  x0 x1 a2 s0) s0 := by
  intro x0 x1 a2 s0
  unfold fJ3_checkIndex_8e157_9
  refine ok_aload_n C 2 dJ3_checkIndex_8e157_9 rfl ?_
  refine ok_iload_n C 0 dJ3_checkIndex_8e157_10 rfl ?_
  refine ok_iload_n C 1 dJ3_checkIndex_8e157_11 rfl ?_
  exact OK.none
set_option maxHeartbeats 4000000 in
theorem oJ3_checkIndex_8e157 {Γ : CX} (C : OKC Γ cJ3_checkIndex_8e157 RJ3 (some (.int))) (T : ∀ z ∈ (cx_c Γ).exceptionTable.toList, False) (hn : cx_nL Γ = 3) (hR : cx_fr Γ = 1 ∧ cx_lo Γ = 60) (hin : (cx_meth Γ).name = yJ3_checkIndex_8e157.name) : ∀ (x0 : Int32) (x1 : Int32) (a2 : Nat) (s0 : AS), OK Γ 0 [(0, .int x0), (1, .int x1), (2, .ref a2)] [] (fJ3_checkIndex_8e157 x0 x1 a2 s0) s0 := by
  intro x0 x1 a2 s0
  unfold fJ3_checkIndex_8e157
  refine ok_iload_n C 0 dJ3_checkIndex_8e157_0 rfl ?_
  refine ok_if_lt C 9 dJ3_checkIndex_8e157_1 (by decide) ?_ ?_
  · exact oJ3_checkIndex_8e157_9 C T hn hR hin x0 x1 a2 s0
  · refine ok_iload_n C 0 dJ3_checkIndex_8e157_4 rfl ?_
    refine ok_iload_n C 1 dJ3_checkIndex_8e157_5 rfl ?_
    refine ok_icmp_lt C 16 dJ3_checkIndex_8e157_6 (by decide) ?_ ?_
    · refine ok_iload_n C 0 dJ3_checkIndex_8e157_16 rfl ?_
      exact ok_ireturn C dJ3_checkIndex_8e157_17
    · exact oJ3_checkIndex_8e157_9 C T hn hR hin x0 x1 a2 s0
theorem ctJ3_checkIndex_8e157 {l : Launch} (hl : l.stackTraces = false) {D : va_G} {dA : Nat → ClassId} {B0 : Nat} (x0 : Int32) (x1 : Int32) (a2 : Nat) : Ct l D dA B0 yJ3_checkIndex_8e157 (.code yJ3_checkIndex_8e157 cJ3_checkIndex_8e157 3 (some (.int)) :: ax_ALL) 1 60 [.int x0, .int x1, .ref a2] (fJ3_checkIndex_8e157 x0 x1 a2) :=
  Ct.of hl (by decide +kernel) (Nat.le_of_ble_eq_true rfl) fun Γ C _ _ _ _ e5 e6 e7 T hin => oJ3_checkIndex_8e157 C T e5 ⟨e6, e7⟩ hin x0 x1 a2 _
theorem ctJ3_checkIndex_null {l : Launch} (hl : l.stackTraces = false) {D : va_G} {dA : Nat → ClassId} {B0 : Nat} (x0 : Int32) (x1 : Int32) : Ct l D dA B0 yJ3_checkIndex_8e157 (.code yJ3_checkIndex_8e157 cJ3_checkIndex_8e157 3 (some (.int)) :: ax_ALL) 1 60 [.int x0, .int x1, .null] (fJ3_checkIndex_8e157 x0 x1 4000000) :=
  Ct.of hl (by decide +kernel) (Nat.le_of_ble_eq_true rfl) fun Γ C _ _ _ _ e5 e6 e7 T hin => by
    unfold fJ3_checkIndex_8e157
    refine ok_iload_n C 0 dJ3_checkIndex_8e157_0 rfl ?_
    refine ok_if_lt C 9 dJ3_checkIndex_8e157_1 (by decide) ?_ ?_
    · exact OK.none
    · refine ok_iload_n C 0 dJ3_checkIndex_8e157_4 rfl ?_
      refine ok_iload_n C 1 dJ3_checkIndex_8e157_5 rfl ?_
      refine ok_icmp_lt C 16 dJ3_checkIndex_8e157_6 (by decide) ?_ ?_
      · refine ok_iload_n C 0 dJ3_checkIndex_8e157_16 rfl ?_
        exact ok_ireturn C dJ3_checkIndex_8e157_17
      · exact OK.none
/-! java/lang/String.checkIndex(II)V -/
def fJ0_checkIndex_df160 (x0 : Int32) (x1 : Int32) (s0 : AS) : Option AR :=
  cS s0 (fJ3_checkIndex_8e157 x0 x1 4000000 s0) (qI (fun v1 s2 =>
  some (.inl none, s2)))
set_option maxHeartbeats 4000000 in
theorem oJ0_checkIndex_df160 {Γ : CX} (C : OKC Γ cJ0_checkIndex_df160 RJ0 none) (T : ∀ z ∈ (cx_c Γ).exceptionTable.toList, False) (hn : cx_nL Γ = 2) (hR : cx_fr Γ = 2 ∧ cx_lo Γ = 82) (hin : (cx_meth Γ).name = yJ0_checkIndex_df160.name) : ∀ (x0 : Int32) (x1 : Int32) (s0 : AS), OK Γ 0 [(0, .int x0), (1, .int x1)] [] (fJ0_checkIndex_df160 x0 x1 s0) s0 := by
  intro x0 x1 s0
  unfold fJ0_checkIndex_df160
  refine ok_iload_n C 0 dJ0_checkIndex_df160_0 rfl ?_
  refine ok_iload_n C 1 dJ0_checkIndex_df160_1 rfl ?_
  refine ok_getSF C kw_35 dJ0_checkIndex_df160_2 ?_ ?_
  · refine ok_callS C T [.int x0, .int x1, .null] (F := fJ3_checkIndex_8e157 x0 x1 4000000) (ctJ3_checkIndex_null (C.2.2.2.2.2.2.2.2.1) x0 x1) vlJ0_1059 kw_39 rfl (by rw [hR.1, hR.2]; decide) (Nat.le_of_ble_eq_true rfl) dJ0_checkIndex_df160_5 (ok_qI fun v1 s2 => ?_)
    refine ok_pop C dJ0_checkIndex_df160_8 rfl ?_
    exact ok_vreturn C dJ0_checkIndex_df160_9
  refine ok_callS C T [.int x0, .int x1, .ref 4000000] (F := fJ3_checkIndex_8e157 x0 x1 4000000) (ctJ3_checkIndex_8e157 (C.2.2.2.2.2.2.2.2.1) x0 x1 4000000) vlJ0_1059 kw_39 rfl (by rw [hR.1, hR.2]; decide) (Nat.le_of_ble_eq_true rfl) dJ0_checkIndex_df160_5 (ok_qI fun v1 s2 => ?_)
  refine ok_pop C dJ0_checkIndex_df160_8 rfl ?_
  exact ok_vreturn C dJ0_checkIndex_df160_9
theorem ctJ0_checkIndex_df160 {l : Launch} (hl : l.stackTraces = false) {D : va_G} {dA : Nat → ClassId} {B0 : Nat} (x0 : Int32) (x1 : Int32) : Ct l D dA B0 yJ0_checkIndex_df160 (.code yJ0_checkIndex_df160 cJ0_checkIndex_df160 2 (none) :: ax_ALL) 2 82 [.int x0, .int x1] (fJ0_checkIndex_df160 x0 x1) :=
  Ct.of hl (by decide +kernel) (Nat.le_of_ble_eq_true rfl) fun Γ C _ _ _ _ e5 e6 e7 T hin => oJ0_checkIndex_df160 C T e5 ⟨e6, e7⟩ hin x0 x1 _
/-! java/lang/StringLatin1.charAt([BI)C -/
def fJ1_charAt_3b067 (a0 : Nat) (x1 : Int32) (s0 : AS) : Option AR :=
  sN a0 (fun v1 =>
  cS s0 (fJ0_checkIndex_df160 x1 v1 s0) (qV (fun s2 =>
  sA a0 x1 (fun v3 =>
  rC (((v3 &&& 255).toUInt32 % 65536).toInt32) s2))))
set_option maxHeartbeats 4000000 in
theorem oJ1_charAt_3b067 {Γ : CX} (C : OKC Γ cJ1_charAt_3b067 RJ1 (some (.char))) (T : ∀ z ∈ (cx_c Γ).exceptionTable.toList, False) (hn : cx_nL Γ = 2) (hR : cx_fr Γ = 3 ∧ cx_lo Γ = 103) (hin : (cx_meth Γ).name = yJ1_charAt_3b067.name) : ∀ (a0 : Nat) (x1 : Int32) (s0 : AS), OK Γ 0 [(0, .ref a0), (1, .int x1)] [] (fJ1_charAt_3b067 a0 x1 s0) s0 := by
  intro a0 x1 s0
  unfold fJ1_charAt_3b067
  refine ok_iload_n C 1 dJ1_charAt_3b067_0 rfl ?_
  refine ok_aload_n C 0 dJ1_charAt_3b067_1 rfl ?_
  refine ok_klen C dJ1_charAt_3b067_2 (fun v1 => ?_)
  refine ok_callS C T [.int x1, .int v1] (F := fJ0_checkIndex_df160 x1 v1) (ctJ0_checkIndex_df160 (C.2.2.2.2.2.2.2.2.1) x1 v1) vlJ1_9 kw_42 rfl (by rw [hR.1, hR.2]; decide) (Nat.le_of_ble_eq_true rfl) dJ1_charAt_3b067_3 (ok_qV fun s2 => ?_)
  refine ok_aload_n C 0 dJ1_charAt_3b067_6 rfl ?_
  refine ok_iload_n C 1 dJ1_charAt_3b067_7 rfl ?_
  refine ok_kbld C dJ1_charAt_3b067_8 (fun v3 => ?_)
  refine ok_sipush C (v := 255) dJ1_charAt_3b067_9 (by decide) ?_
  refine ok_iand C dJ1_charAt_3b067_12 ?_
  refine ok_i2c C dJ1_charAt_3b067_13 ?_
  exact ok_creturn C dJ1_charAt_3b067_14
theorem ctJ1_charAt_3b067 {l : Launch} (hl : l.stackTraces = false) {D : va_G} {dA : Nat → ClassId} {B0 : Nat} (a0 : Nat) (x1 : Int32) : Ct l D dA B0 yJ1_charAt_3b067 (.code yJ1_charAt_3b067 cJ1_charAt_3b067 2 (some (.char)) :: ax_ALL) 3 103 [.ref a0, .int x1] (fJ1_charAt_3b067 a0 x1) :=
  Ct.of hl (by decide +kernel) (Nat.le_of_ble_eq_true rfl) fun Γ C _ _ _ _ e5 e6 e7 T hin => oJ1_charAt_3b067 C T e5 ⟨e6, e7⟩ hin a0 x1 _
/-! java/lang/String.charAt(I)C -/
def fJ0_charAt_5068e (a0 : Nat) (x1 : Int32) (s0 : AS) : Option AR :=
  cK s0 a0 (fJ0_isLatin1_aae02 a0 s0) (qI (fun v1 s2 =>
  if v1 = 0 then (
    sK a0 (
    none))
  else (
    sK a0 (
    cS s2 (fJ1_charAt_3b067 ((a0 + 2000000)) x1 s2) (qI (fun v3 s4 =>
    rC v3 s4))))))
set_option maxHeartbeats 4000000 in
theorem oJ0_charAt_5068e {Γ : CX} (C : OKC Γ cJ0_charAt_5068e RJ0 (some (.char))) (T : ∀ z ∈ (cx_c Γ).exceptionTable.toList, False) (hn : cx_nL Γ = 2) (hR : cx_fr Γ = 4 ∧ cx_lo Γ = 124) (hin : (cx_meth Γ).name = yJ0_charAt_5068e.name) : ∀ (a0 : Nat) (x1 : Int32) (s0 : AS), OK Γ 0 [(0, .ref a0), (1, .int x1)] [] (fJ0_charAt_5068e a0 x1 s0) s0 := by
  intro a0 x1 s0
  unfold fJ0_charAt_5068e
  refine ok_aload_n C 0 dJ0_charAt_5068e_0 rfl ?_
  refine ok_callK C T [] (F := fJ0_isLatin1_aae02 a0) (ctJ0_isLatin1_aae02 (C.2.2.2.2.2.2.2.2.1) a0) vlJ0_492 viJ0_isLatin1_aae02 rfl rfl (by rw [hR.1, hR.2]; decide) (Nat.le_of_ble_eq_true rfl) dJ0_charAt_5068e_1 (ok_qI fun v1 s2 => ?_)
  refine ok_if_eq C 16 dJ0_charAt_5068e_4 (by decide) ?_ ?_
  · refine ok_aload_n C 0 dJ0_charAt_5068e_16 rfl ?_
    refine ok_kval C kw_24 dJ0_charAt_5068e_17 ?_
    refine ok_iload_n C 1 dJ0_charAt_5068e_20 rfl ?_
    exact OK.none
  · refine ok_aload_n C 0 dJ0_charAt_5068e_7 rfl ?_
    refine ok_kval C kw_24 dJ0_charAt_5068e_8 ?_
    refine ok_iload_n C 1 dJ0_charAt_5068e_11 rfl ?_
    refine ok_callS C T [.ref ((a0 + 2000000)), .int x1] (F := fJ1_charAt_3b067 ((a0 + 2000000)) x1) (ctJ1_charAt_3b067 (C.2.2.2.2.2.2.2.2.1) ((a0 + 2000000)) x1) vlJ0_495 kw_46 rfl (by rw [hR.1, hR.2]; decide) (Nat.le_of_ble_eq_true rfl) dJ0_charAt_5068e_12 (ok_qI fun v3 s4 => ?_)
    exact ok_creturn C dJ0_charAt_5068e_15
theorem ctJ0_charAt_5068e {l : Launch} (hl : l.stackTraces = false) {D : va_G} {dA : Nat → ClassId} {B0 : Nat} (a0 : Nat) (x1 : Int32) : Ct l D dA B0 yJ0_charAt_5068e (.code yJ0_charAt_5068e cJ0_charAt_5068e 2 (some (.char)) :: ax_ALL) 4 124 [.ref a0, .int x1] (fJ0_charAt_5068e a0 x1) :=
  Ct.of hl (by decide +kernel) (Nat.le_of_ble_eq_true rfl) fun Γ C _ _ _ _ e5 e6 e7 T hin => oJ0_charAt_5068e C T e5 ⟨e6, e7⟩ hin a0 x1 _
/-! java/lang/AbstractStringBuilder.<init>(I)V -/
def fJ5_init_d00df (a0 : Nat) (x1 : Int32) (s0 : AS) : Option AR :=
  if (1 : Int32) = 0 then (
    none)
  else (
    nA s0 103 x1 (fun q1 s2 =>
    sR s2 a0 1 0 q1 (fun s3 =>
    sB s3 a0 1 1 0 (fun s4 =>
    some (.inl none, s4)))))
set_option maxHeartbeats 4000000 in
theorem oJ5_init_d00df {Γ : CX} (C : OKC Γ cJ5_init_d00df RJ5 none) (T : ∀ z ∈ (cx_c Γ).exceptionTable.toList, False) (hn : cx_nL Γ = 2) (hR : cx_fr Γ = 2 ∧ cx_lo Γ = 60) (hin : (cx_meth Γ).name = yJ5_init_d00df.name) : ∀ (a0 : Nat) (x1 : Int32) (s0 : AS), OK Γ 0 [(0, .ref a0), (1, .int x1)] [] (fJ5_init_d00df a0 x1 s0) s0 := by
  intro a0 x1 s0
  unfold fJ5_init_d00df
  refine ok_aload_n C 0 dJ5_init_d00df_0 rfl ?_
  refine ok_objInit C kw_47 kw_48 kw_49 (by rw [hR.1]; decide) (by rw [hR.2]; exact Nat.le_of_ble_eq_true rfl) dJ5_init_d00df_1 ?_
  refine ok_getCS C kw_50 dJ5_init_d00df_4 ?_
  refine ok_if_eq C 25 dJ5_init_d00df_7 (by decide) ?_ ?_
  · refine ok_aload_n C 0 dJ5_init_d00df_25 rfl ?_
    refine ok_iload_n C 1 dJ5_init_d00df_26 rfl ?_
    exact OK.none
  · refine ok_aload_n C 0 dJ5_init_d00df_10 rfl ?_
    refine ok_iload_n C 1 dJ5_init_d00df_11 rfl ?_
    refine ok_newB C kw_51 dJ5_init_d00df_12 (fun q1 s2 => ?_)
    refine ok_putR C flJ5_15_1 (by first | exact Or.inl ⟨_, rfl⟩ | exact Or.inr ⟨_, rfl⟩) dJ5_init_d00df_14 (fun s3 _ => ?_)
    refine ok_aload_n C 0 dJ5_init_d00df_17 rfl ?_
    refine ok_iconst C (v := 0) dJ5_init_d00df_18 (by decide) ?_
    refine ok_putB C flJ5_22_1 dJ5_init_d00df_19 (fun s4 _ => ?_)
    refine ok_goto C 38 dJ5_init_d00df_22 (by decide) ?_
    exact ok_vreturn C dJ5_init_d00df_38
theorem ctJ5_init_d00df {l : Launch} (hl : l.stackTraces = false) {D : va_G} {dA : Nat → ClassId} {B0 : Nat} (a0 : Nat) (x1 : Int32) : Ct l D dA B0 yJ5_init_d00df (.code yJ5_init_d00df cJ5_init_d00df 2 (none) :: ax_ALL) 2 60 [.ref a0, .int x1] (fJ5_init_d00df a0 x1) :=
  Ct.of hl (by decide +kernel) (Nat.le_of_ble_eq_true rfl) fun Γ C _ _ _ _ e5 e6 e7 T hin => oJ5_init_d00df C T e5 ⟨e6, e7⟩ hin a0 x1 _
/-! java/lang/StringBuilder.<init>()V -/
def fJ4_init_da8c8 (a0 : Nat) (s0 : AS) : Option AR :=
  cS s0 (fJ5_init_d00df a0 16 s0) (qV (fun s1 =>
  some (.inl none, s1)))
set_option maxHeartbeats 4000000 in
theorem oJ4_init_da8c8 {Γ : CX} (C : OKC Γ cJ4_init_da8c8 RJ4 none) (T : ∀ z ∈ (cx_c Γ).exceptionTable.toList, False) (hn : cx_nL Γ = 1) (hR : cx_fr Γ = 3 ∧ cx_lo Γ = 81) (hin : (cx_meth Γ).name = yJ4_init_da8c8.name) : ∀ (a0 : Nat) (s0 : AS), OK Γ 0 [(0, .ref a0)] [] (fJ4_init_da8c8 a0 s0) s0 := by
  intro a0 s0
  unfold fJ4_init_da8c8
  refine ok_aload_n C 0 dJ4_init_da8c8_0 rfl ?_
  refine ok_bipush C (v := 16) dJ4_init_da8c8_1 (by decide) ?_
  refine ok_callI C T [.int 16] (F := fJ5_init_d00df a0 16) (ctJ5_init_d00df (C.2.2.2.2.2.2.2.2.1) a0 16) vlJ4_1 kw_56 rfl rfl (by rw [hR.1, hR.2]; decide) (Nat.le_of_ble_eq_true rfl) dJ4_init_da8c8_3 (ok_qV fun s1 => ?_)
  exact ok_vreturn C dJ4_init_da8c8_6
theorem ctJ4_init_da8c8 {l : Launch} (hl : l.stackTraces = false) {D : va_G} {dA : Nat → ClassId} {B0 : Nat} (a0 : Nat) : Ct l D dA B0 yJ4_init_da8c8 (.code yJ4_init_da8c8 cJ4_init_da8c8 1 (none) :: ax_ALL) 3 81 [.ref a0] (fJ4_init_da8c8 a0) :=
  Ct.of hl (by decide +kernel) (Nat.le_of_ble_eq_true rfl) fun Γ C _ _ _ _ e5 e6 e7 T hin => oJ4_init_da8c8 C T e5 ⟨e6, e7⟩ hin a0 _
/-! jdk/internal/util/ArraysSupport.newLength(III)I -/
def fJ8_newLength_cabcc_21  (x0 : Int32) (x1 : Int32) (s0 : AS) : Option AR :=
  none
def fJ8_newLength_cabcc (x0 : Int32) (x1 : Int32) (x2 : Int32) (s0 : AS) : Option AR :=
  lt (if x1 < x2 then x2 else x1) (fun v1 =>
  lt (x0 + v1) (fun v2 =>
  if v2 ≤ (0 : Int32) then (
    fJ8_newLength_cabcc_21 x0 x1 s0)
  else (
    if (2147483639 : Int32) < v2 then (
      fJ8_newLength_cabcc_21 x0 x1 s0)
    else (
      some (.inl (some (.int v2)), s0)))))
set_option maxHeartbeats 4000000 in
theorem oJ8_newLength_cabcc_21 {Γ : CX} (C : OKC Γ cJ8_newLength_cabcc RJ8 (some (.int))) (T : ∀ z ∈ (cx_c Γ).exceptionTable.toList, False) (hn : cx_nL Γ = 4) (hR : cx_fr Γ = 2 ∧ cx_lo Γ = 60) (hin : (cx_meth Γ).name = yJ8_newLength_cabcc.name) : ∀ (x0 : Int32) (x1 : Int32) (s0 : AS), OK Γ 21 [(0, .int x0), (1, .int x1)] [] (fJ8_newLength_cabcc_21  x0 x1 s0) s0 := by
  intro x0 x1 s0
  unfold fJ8_newLength_cabcc_21
  refine ok_iload_n C 0 dJ8_newLength_cabcc_21 rfl ?_
  refine ok_iload_n C 1 dJ8_newLength_cabcc_22 rfl ?_
  exact OK.none
set_option maxHeartbeats 4000000 in
theorem oJ8_newLength_cabcc {Γ : CX} (C : OKC Γ cJ8_newLength_cabcc RJ8 (some (.int))) (T : ∀ z ∈ (cx_c Γ).exceptionTable.toList, False) (hn : cx_nL Γ = 4) (hR : cx_fr Γ = 2 ∧ cx_lo Γ = 60) (hin : (cx_meth Γ).name = yJ8_newLength_cabcc.name) : ∀ (x0 : Int32) (x1 : Int32) (x2 : Int32) (s0 : AS), OK Γ 0 [(0, .int x0), (1, .int x1), (2, .int x2)] [] (fJ8_newLength_cabcc x0 x1 x2 s0) s0 := by
  intro x0 x1 x2 s0
  unfold fJ8_newLength_cabcc
  refine ok_iload_n C 0 dJ8_newLength_cabcc_0 rfl ?_
  refine ok_iload_n C 1 dJ8_newLength_cabcc_1 rfl ?_
  refine ok_iload_n C 2 dJ8_newLength_cabcc_2 rfl ?_
  refine ok_mmax C mlJ8_194 (by rw [hR.1]; decide) (by rw [hR.2]; exact Nat.le_of_ble_eq_true rfl) dJ8_newLength_cabcc_3 ?_
  refine ok_lt (fun v1 => ?_)
  refine ok_iadd C dJ8_newLength_cabcc_6 ?_
  refine ok_lt (fun v2 => ?_)
  refine ok_istore_n C (i := 3) [(3, .int v2), (0, .int x0), (1, .int x1), (2, .int x2)] dJ8_newLength_cabcc_7 rfl (by rw [hn]; decide) rfl ?_
  refine ok_iconst C (v := 0) dJ8_newLength_cabcc_8 (by decide) ?_
  refine ok_iload_n C 0 dJ8_newLength_cabcc_9 rfl ?_
  refine ok_icmp_ge C 21 dJ8_newLength_cabcc_10 (by decide) ?_ ?_
  · refine OK.sub (lv' := [(0, .int x0), (1, .int x1)]) [1, 2] rfl ?_
    exact oJ8_newLength_cabcc_21 C T hn hR hin x0 x1 s0
  · refine ok_iload_n C 0 dJ8_newLength_cabcc_13 rfl ?_
    refine ok_ldc C (v := 2147483639) kw_63 dJ8_newLength_cabcc_14 ?_
    refine ok_icmp_gt C 21 dJ8_newLength_cabcc_16 (by decide) ?_ ?_
    · refine OK.sub (lv' := [(0, .int x0), (1, .int x1)]) [1, 2] rfl ?_
      exact oJ8_newLength_cabcc_21 C T hn hR hin x0 x1 s0
    · refine ok_iload_n C 0 dJ8_newLength_cabcc_19 rfl ?_
      exact ok_ireturn C dJ8_newLength_cabcc_20
theorem ctJ8_newLength_cabcc {l : Launch} (hl : l.stackTraces = false) {D : va_G} {dA : Nat → ClassId} {B0 : Nat} (x0 : Int32) (x1 : Int32) (x2 : Int32) : Ct l D dA B0 yJ8_newLength_cabcc (.code yJ8_newLength_cabcc cJ8_newLength_cabcc 4 (some (.int)) :: ax_ALL) 2 60 [.int x0, .int x1, .int x2] (fJ8_newLength_cabcc x0 x1 x2) :=
  Ct.of hl (by decide +kernel) (Nat.le_of_ble_eq_true rfl) fun Γ C _ _ _ _ e5 e6 e7 T hin => oJ8_newLength_cabcc C T e5 ⟨e6, e7⟩ hin x0 x1 x2 _
/-! java/lang/AbstractStringBuilder.newCapacity(I)I -/
def fJ5_newCapacity_0f7a4 (a0 : Nat) (x1 : Int32) (s0 : AS) : Option AR :=
  gR s0 a0 1 0 (fun q1 =>
  aL s0 q1 103 (fun v2 =>
  gI s0 a0 1 1 (fun v3 =>
  lt (x1 <<< (v3 &&& 31)) (fun v4 =>
  lt (v4 - v2) (fun v5 =>
  gI s0 a0 1 1 (fun v6 =>
  cS s0 (fJ8_newLength_cabcc v2 v5 (v2 + (2 <<< (v6 &&& 31))) s0) (qI (fun v7 s8 =>
  if v7 = (2147483647 : Int32) then (
    none)
  else (
    gI s8 a0 1 1 (fun v9 =>
    some (.inl (some (.int (v7 >>> (v9 &&& 31)))), s8)))))))))))
set_option maxHeartbeats 4000000 in
theorem oJ5_newCapacity_0f7a4 {Γ : CX} (C : OKC Γ cJ5_newCapacity_0f7a4 RJ5 (some (.int))) (T : ∀ z ∈ (cx_c Γ).exceptionTable.toList, False) (hn : cx_nL Γ = 6) (hR : cx_fr Γ = 3 ∧ cx_lo Γ = 83) (hin : (cx_meth Γ).name = yJ5_newCapacity_0f7a4.name) : ∀ (a0 : Nat) (x1 : Int32) (s0 : AS), OK Γ 0 [(0, .ref a0), (1, .int x1)] [] (fJ5_newCapacity_0f7a4 a0 x1 s0) s0 := by
  intro a0 x1 s0
  unfold fJ5_newCapacity_0f7a4
  refine ok_aload_n C 0 dJ5_newCapacity_0f7a4_0 rfl ?_
  refine ok_getR C frJ5_15_1 dJ5_newCapacity_0f7a4_1 (fun q1 => ?_)
  refine ok_alen C 103 3 (fun _ => rfl) (by decide) dJ5_newCapacity_0f7a4_4 (fun v2 => ?_)
  refine ok_istore_n C (i := 2) [(2, .int v2), (0, .ref a0), (1, .int x1)] dJ5_newCapacity_0f7a4_5 rfl (by rw [hn]; decide) rfl ?_
  refine ok_iload_n C 2 dJ5_newCapacity_0f7a4_6 rfl ?_
  refine ok_aload_n C 1 dJ5_newCapacity_0f7a4_7 rfl ?_
  refine ok_getI C frJ5_22_1 dJ5_newCapacity_0f7a4_8 (fun v3 => ?_)
  refine ok_ishl C dJ5_newCapacity_0f7a4_11 ?_
  refine ok_lt (fun v4 => ?_)
  refine ok_istore_n C (i := 3) [(3, .int v4), (2, .int v2), (0, .ref a0), (1, .int x1)] dJ5_newCapacity_0f7a4_12 rfl (by rw [hn]; decide) rfl ?_
  refine ok_iload_n C 0 dJ5_newCapacity_0f7a4_13 rfl ?_
  refine ok_iload_n C 1 dJ5_newCapacity_0f7a4_14 rfl ?_
  refine ok_isub C dJ5_newCapacity_0f7a4_15 ?_
  refine ok_lt (fun v5 => ?_)
  refine ok_istore C (i := 4) [(4, .int v5), (3, .int v4), (2, .int v2), (0, .ref a0), (1, .int x1)] dJ5_newCapacity_0f7a4_16 (by rw [hn]; decide) rfl ?_
  refine ok_iload_n C 2 dJ5_newCapacity_0f7a4_18 rfl ?_
  refine ok_iload C 0 dJ5_newCapacity_0f7a4_19 rfl ?_
  refine ok_iload_n C 2 dJ5_newCapacity_0f7a4_21 rfl ?_
  refine ok_iconst C (v := 2) dJ5_newCapacity_0f7a4_22 (by decide) ?_
  refine ok_aload_n C 3 dJ5_newCapacity_0f7a4_23 rfl ?_
  refine ok_getI C frJ5_22_1 dJ5_newCapacity_0f7a4_24 (fun v6 => ?_)
  refine ok_ishl C dJ5_newCapacity_0f7a4_27 ?_
  refine ok_iadd C dJ5_newCapacity_0f7a4_28 ?_
  refine ok_callS C T [.int v2, .int v5, .int (v2 + (2 <<< (v6 &&& 31)))] (F := fJ8_newLength_cabcc v2 v5 (v2 + (2 <<< (v6 &&& 31)))) (ctJ8_newLength_cabcc (C.2.2.2.2.2.2.2.2.1) v2 v5 (v2 + (2 <<< (v6 &&& 31)))) vlJ5_114 kw_67 rfl (by rw [hR.1, hR.2]; decide) (Nat.le_of_ble_eq_true rfl) dJ5_newCapacity_0f7a4_29 (ok_qI fun v7 s8 => ?_)
  refine ok_istore C (i := 5) [(5, .int v7), (4, .int v5), (3, .int v4), (2, .int v2), (0, .ref a0), (1, .int x1)] dJ5_newCapacity_0f7a4_32 (by rw [hn]; decide) rfl ?_
  refine ok_iload C 0 dJ5_newCapacity_0f7a4_34 rfl ?_
  refine ok_ldc C (v := 2147483647) kw_68 dJ5_newCapacity_0f7a4_36 ?_
  refine ok_icmp_ne C 51 dJ5_newCapacity_0f7a4_38 (by decide) ?_ ?_
  · refine ok_iload C 0 dJ5_newCapacity_0f7a4_51 rfl ?_
    refine ok_aload_n C 4 dJ5_newCapacity_0f7a4_53 rfl ?_
    refine ok_getI C frJ5_22_1 dJ5_newCapacity_0f7a4_54 (fun v9 => ?_)
    refine ok_ishr C dJ5_newCapacity_0f7a4_57 ?_
    exact ok_ireturn C dJ5_newCapacity_0f7a4_58
  · exact OK.none
theorem ctJ5_newCapacity_0f7a4 {l : Launch} (hl : l.stackTraces = false) {D : va_G} {dA : Nat → ClassId} {B0 : Nat} (a0 : Nat) (x1 : Int32) : Ct l D dA B0 yJ5_newCapacity_0f7a4 (.code yJ5_newCapacity_0f7a4 cJ5_newCapacity_0f7a4 6 (some (.int)) :: ax_ALL) 3 83 [.ref a0, .int x1] (fJ5_newCapacity_0f7a4 a0 x1) :=
  Ct.of hl (by decide +kernel) (Nat.le_of_ble_eq_true rfl) fun Γ C _ _ _ _ e5 e6 e7 T hin => oJ5_newCapacity_0f7a4 C T e5 ⟨e6, e7⟩ hin a0 x1 _
/-! java/util/Arrays.copyOf([BI)[B -/
def fJ7_copyOf_9075b (a0 : Nat) (x1 : Int32) (s0 : AS) : Option AR :=
  aL s0 a0 103 (fun v1 =>
  if x1 = v1 then (
    none)
  else (
    nA s0 103 x1 (fun q2 s3 =>
    aL s3 a0 103 (fun v4 =>
    lt (if x1 < v4 then x1 else v4) (fun v5 =>
    cpI 103 .byte s3 a0 0 q2 0 v5 (fun s6 =>
    some (.inl (some (.ref q2)), s6)))))))
set_option maxHeartbeats 4000000 in
theorem oJ7_copyOf_9075b {Γ : CX} (C : OKC Γ cJ7_copyOf_9075b RJ7 (some (.array .byte))) (T : ∀ z ∈ (cx_c Γ).exceptionTable.toList, False) (hn : cx_nL Γ = 3) (hR : cx_fr Γ = 2 ∧ cx_lo Γ = 100) (hin : (cx_meth Γ).name = yJ7_copyOf_9075b.name) : ∀ (a0 : Nat) (x1 : Int32) (s0 : AS), OK Γ 0 [(0, .ref a0), (1, .int x1)] [] (fJ7_copyOf_9075b a0 x1 s0) s0 := by
  intro a0 x1 s0
  unfold fJ7_copyOf_9075b
  refine ok_iload_n C 1 dJ7_copyOf_9075b_0 rfl ?_
  refine ok_aload_n C 0 dJ7_copyOf_9075b_1 rfl ?_
  refine ok_alen C 103 3 (fun _ => rfl) (by decide) dJ7_copyOf_9075b_2 (fun v1 => ?_)
  refine ok_icmp_ne C 14 dJ7_copyOf_9075b_3 (by decide) ?_ ?_
  · refine ok_iload_n C 1 dJ7_copyOf_9075b_14 rfl ?_
    refine ok_newB C kw_51 dJ7_copyOf_9075b_15 (fun q2 s3 => ?_)
    refine ok_astore_n C (i := 2) [(2, .ref q2), (0, .ref a0), (1, .int x1)] dJ7_copyOf_9075b_17 rfl (by rw [hn]; decide) rfl ?_
    refine ok_aload_n C 1 dJ7_copyOf_9075b_18 rfl ?_
    refine ok_iconst C (v := 0) dJ7_copyOf_9075b_19 (by decide) ?_
    refine ok_aload_n C 0 dJ7_copyOf_9075b_20 rfl ?_
    refine ok_iconst C (v := 0) dJ7_copyOf_9075b_21 (by decide) ?_
    refine ok_aload_n C 1 dJ7_copyOf_9075b_22 rfl ?_
    refine ok_alen C 103 3 (fun _ => rfl) (by decide) dJ7_copyOf_9075b_23 (fun v4 => ?_)
    refine ok_iload_n C 2 dJ7_copyOf_9075b_24 rfl ?_
    refine ok_mmin C mlJ7_304 (by rw [hR.1]; decide) (by rw [hR.2]; exact Nat.le_of_ble_eq_true rfl) dJ7_copyOf_9075b_25 ?_
    refine ok_lt (fun v5 => ?_)
    refine ok_copyI C 103 3 clJ7_150 (fun _ => rfl) rfl (by decide) (by decide) (by decide) (by decide) (by rw [hR.1]; decide) (by rw [hR.2]; exact Nat.le_of_ble_eq_true rfl) dJ7_copyOf_9075b_28 (fun s6 => ?_)
    refine ok_aload_n C 0 dJ7_copyOf_9075b_31 rfl ?_
    exact ok_areturn C (by first | exact Or.inl ⟨_, rfl⟩ | exact Or.inr ⟨_, rfl⟩) dJ7_copyOf_9075b_32
  · refine ok_aload_n C 0 dJ7_copyOf_9075b_6 rfl ?_
    exact OK.none
theorem ctJ7_copyOf_9075b {l : Launch} (hl : l.stackTraces = false) {D : va_G} {dA : Nat → ClassId} {B0 : Nat} (a0 : Nat) (x1 : Int32) : Ct l D dA B0 yJ7_copyOf_9075b (.code yJ7_copyOf_9075b cJ7_copyOf_9075b 3 (some (.array .byte)) :: ax_ALL) 2 100 [.ref a0, .int x1] (fJ7_copyOf_9075b a0 x1) :=
  Ct.of hl (by decide +kernel) (Nat.le_of_ble_eq_true rfl) fun Γ C _ _ _ _ e5 e6 e7 T hin => oJ7_copyOf_9075b C T e5 ⟨e6, e7⟩ hin a0 x1 _
/-! java/lang/AbstractStringBuilder.ensureCapacityInternal(I)V -/
def fJ5_ensureCapacityInternal_d00df (a0 : Nat) (x1 : Int32) (s0 : AS) : Option AR :=
  gR s0 a0 1 0 (fun q1 =>
  aL s0 q1 103 (fun v2 =>
  gI s0 a0 1 1 (fun v3 =>
  lt (v2 >>> (v3 &&& 31)) (fun v4 =>
  if (x1 - v4) ≤ 0 then (
    some (.inl none, s0))
  else (
    gR s0 a0 1 0 (fun q5 =>
    cV s0 a0 1 (fJ5_newCapacity_0f7a4 a0 x1 s0) (qI (fun v6 s7 =>
    gI s7 a0 1 1 (fun v8 =>
    cS s7 (fJ7_copyOf_9075b q5 (v6 <<< (v8 &&& 31)) s7) (qR (fun q9 s10 =>
    sR s10 a0 1 0 q9 (fun s11 =>
    some (.inl none, s11)))))))))))))
set_option maxHeartbeats 4000000 in
theorem oJ5_ensureCapacityInternal_d00df {Γ : CX} (C : OKC Γ cJ5_ensureCapacityInternal_d00df RJ5 none) (T : ∀ z ∈ (cx_c Γ).exceptionTable.toList, False) (hn : cx_nL Γ = 3) (hR : cx_fr Γ = 4 ∧ cx_lo Γ = 122) (hin : (cx_meth Γ).name = yJ5_ensureCapacityInternal_d00df.name) : ∀ (a0 : Nat) (x1 : Int32) (s0 : AS), OK Γ 0 [(0, .ref a0), (1, .int x1)] [] (fJ5_ensureCapacityInternal_d00df a0 x1 s0) s0 := by
  intro a0 x1 s0
  unfold fJ5_ensureCapacityInternal_d00df
  refine ok_aload_n C 0 dJ5_ensureCapacityInternal_d00df_0 rfl ?_
  refine ok_getR C frJ5_15_1 dJ5_ensureCapacityInternal_d00df_1 (fun q1 => ?_)
  refine ok_alen C 103 3 (fun _ => rfl) (by decide) dJ5_ensureCapacityInternal_d00df_4 (fun v2 => ?_)
  refine ok_aload_n C 0 dJ5_ensureCapacityInternal_d00df_5 rfl ?_
  refine ok_getI C frJ5_22_1 dJ5_ensureCapacityInternal_d00df_6 (fun v3 => ?_)
  refine ok_ishr C dJ5_ensureCapacityInternal_d00df_9 ?_
  refine ok_lt (fun v4 => ?_)
  refine ok_istore_n C (i := 2) [(2, .int v4), (0, .ref a0), (1, .int x1)] dJ5_ensureCapacityInternal_d00df_10 rfl (by rw [hn]; decide) rfl ?_
  refine ok_iload_n C 2 dJ5_ensureCapacityInternal_d00df_11 rfl ?_
  refine ok_iload_n C 0 dJ5_ensureCapacityInternal_d00df_12 rfl ?_
  refine ok_isub C dJ5_ensureCapacityInternal_d00df_13 ?_
  refine ok_if_le C 38 dJ5_ensureCapacityInternal_d00df_14 (by decide) ?_ ?_
  · exact ok_vreturn C dJ5_ensureCapacityInternal_d00df_38
  · refine ok_aload_n C 1 dJ5_ensureCapacityInternal_d00df_17 rfl ?_
    refine ok_aload_n C 1 dJ5_ensureCapacityInternal_d00df_18 rfl ?_
    refine ok_getR C frJ5_15_1 dJ5_ensureCapacityInternal_d00df_19 (fun q5 => ?_)
    refine ok_aload_n C 1 dJ5_ensureCapacityInternal_d00df_22 rfl ?_
    refine ok_iload_n C 2 dJ5_ensureCapacityInternal_d00df_23 rfl ?_
    refine ok_callU C T [.int x1] (F := fJ5_newCapacity_0f7a4 a0 x1) (ctJ5_newCapacity_0f7a4 (C.2.2.2.2.2.2.2.2.1) a0 x1) unJ5_104 rfl (by decide) rfl (by rw [hR.1, hR.2]; decide) (Nat.le_of_ble_eq_true rfl) dJ5_ensureCapacityInternal_d00df_24 (ok_qI fun v6 s7 => ?_)
    refine ok_aload_n C 1 dJ5_ensureCapacityInternal_d00df_27 rfl ?_
    refine ok_getI C frJ5_22_1 dJ5_ensureCapacityInternal_d00df_28 (fun v8 => ?_)
    refine ok_ishl C dJ5_ensureCapacityInternal_d00df_31 ?_
    refine ok_callS C T [.ref q5, .int (v6 <<< (v8 &&& 31))] (F := fJ7_copyOf_9075b q5 (v6 <<< (v8 &&& 31))) (ctJ7_copyOf_9075b (C.2.2.2.2.2.2.2.2.1) q5 (v6 <<< (v8 &&& 31))) vlJ5_108 kw_83 rfl (by rw [hR.1, hR.2]; decide) (Nat.le_of_ble_eq_true rfl) dJ5_ensureCapacityInternal_d00df_32 (ok_qR fun q9 s10 => ?_)
    refine ok_putR C flJ5_15_1 (by first | exact Or.inl ⟨_, rfl⟩ | exact Or.inr ⟨_, rfl⟩) dJ5_ensureCapacityInternal_d00df_35 (fun s11 _ => ?_)
    exact ok_vreturn C dJ5_ensureCapacityInternal_d00df_38
theorem ctJ5_ensureCapacityInternal_d00df {l : Launch} (hl : l.stackTraces = false) {D : va_G} {dA : Nat → ClassId} {B0 : Nat} (a0 : Nat) (x1 : Int32) : Ct l D dA B0 yJ5_ensureCapacityInternal_d00df (.code yJ5_ensureCapacityInternal_d00df cJ5_ensureCapacityInternal_d00df 3 (none) :: ax_ALL) 4 122 [.ref a0, .int x1] (fJ5_ensureCapacityInternal_d00df a0 x1) :=
  Ct.of hl (by decide +kernel) (Nat.le_of_ble_eq_true rfl) fun Γ C _ _ _ _ e5 e6 e7 T hin => oJ5_ensureCapacityInternal_d00df C T e5 ⟨e6, e7⟩ hin a0 x1 _
/-! java/lang/AbstractStringBuilder.isLatin1()Z -/
def fJ5_isLatin1_aae02 (a0 : Nat) (s0 : AS) : Option AR :=
  if (1 : Int32) = 0 then (
    rZ 0 s0)
  else (
    gI s0 a0 1 1 (fun v1 =>
    if v1 = 0 then (
      rZ 1 s0)
    else (
      rZ 0 s0)))
set_option maxHeartbeats 4000000 in
theorem oJ5_isLatin1_aae02 {Γ : CX} (C : OKC Γ cJ5_isLatin1_aae02 RJ5 (some (.boolean))) (T : ∀ z ∈ (cx_c Γ).exceptionTable.toList, False) (hn : cx_nL Γ = 1) (hR : cx_fr Γ = 1 ∧ cx_lo Γ = 60) (hin : (cx_meth Γ).name = yJ5_isLatin1_aae02.name) : ∀ (a0 : Nat) (s0 : AS), OK Γ 0 [(0, .ref a0)] [] (fJ5_isLatin1_aae02 a0 s0) s0 := by
  intro a0 s0
  unfold fJ5_isLatin1_aae02
  refine ok_getCS C kw_50 dJ5_isLatin1_aae02_0 ?_
  refine ok_if_eq C 17 dJ5_isLatin1_aae02_3 (by decide) ?_ ?_
  · refine ok_iconst C (v := 0) dJ5_isLatin1_aae02_17 (by decide) ?_
    exact ok_zreturn C dJ5_isLatin1_aae02_18
  · refine ok_aload_n C 0 dJ5_isLatin1_aae02_6 rfl ?_
    refine ok_getI C frJ5_22_1 dJ5_isLatin1_aae02_7 (fun v1 => ?_)
    refine ok_if_ne C 17 dJ5_isLatin1_aae02_10 (by decide) ?_ ?_
    · refine ok_iconst C (v := 0) dJ5_isLatin1_aae02_17 (by decide) ?_
      exact ok_zreturn C dJ5_isLatin1_aae02_18
    · refine ok_iconst C (v := 1) dJ5_isLatin1_aae02_13 (by decide) ?_
      refine ok_goto C 18 dJ5_isLatin1_aae02_14 (by decide) ?_
      exact ok_zreturn C dJ5_isLatin1_aae02_18
theorem ctJ5_isLatin1_aae02 {l : Launch} (hl : l.stackTraces = false) {D : va_G} {dA : Nat → ClassId} {B0 : Nat} (a0 : Nat) : Ct l D dA B0 yJ5_isLatin1_aae02 (.code yJ5_isLatin1_aae02 cJ5_isLatin1_aae02 1 (some (.boolean)) :: ax_ALL) 1 60 [.ref a0] (fJ5_isLatin1_aae02 a0) :=
  Ct.of hl (by decide +kernel) (Nat.le_of_ble_eq_true rfl) fun Γ C _ _ _ _ e5 e6 e7 T hin => oJ5_isLatin1_aae02 C T e5 ⟨e6, e7⟩ hin a0 _
/-! java/lang/StringLatin1.canEncode(C)Z -/
def fJ1_canEncode_fc78d (x0 : Int32) (s0 : AS) : Option AR :=
  if (255 : Int32) < x0 then (
    rZ 0 s0)
  else (
    rZ 1 s0)
set_option maxHeartbeats 4000000 in
theorem oJ1_canEncode_fc78d {Γ : CX} (C : OKC Γ cJ1_canEncode_fc78d RJ1 (some (.boolean))) (T : ∀ z ∈ (cx_c Γ).exceptionTable.toList, False) (hn : cx_nL Γ = 1) (hR : cx_fr Γ = 1 ∧ cx_lo Γ = 60) (hin : (cx_meth Γ).name = yJ1_canEncode_fc78d.name) : ∀ (x0 : Int32) (s0 : AS), OK Γ 0 [(0, .int x0)] [] (fJ1_canEncode_fc78d x0 s0) s0 := by
  intro x0 s0
  unfold fJ1_canEncode_fc78d
  refine ok_iload_n C 0 dJ1_canEncode_fc78d_0 rfl ?_
  refine ok_sipush C (v := 255) dJ1_canEncode_fc78d_1 (by decide) ?_
  refine ok_icmp_gt C 11 dJ1_canEncode_fc78d_4 (by decide) ?_ ?_
  · refine ok_iconst C (v := 0) dJ1_canEncode_fc78d_11 (by decide) ?_
    exact ok_zreturn C dJ1_canEncode_fc78d_12
  · refine ok_iconst C (v := 1) dJ1_canEncode_fc78d_7 (by decide) ?_
    refine ok_goto C 12 dJ1_canEncode_fc78d_8 (by decide) ?_
    exact ok_zreturn C dJ1_canEncode_fc78d_12
theorem ctJ1_canEncode_fc78d {l : Launch} (hl : l.stackTraces = false) {D : va_G} {dA : Nat → ClassId} {B0 : Nat} (x0 : Int32) : Ct l D dA B0 yJ1_canEncode_fc78d (.code yJ1_canEncode_fc78d cJ1_canEncode_fc78d 1 (some (.boolean)) :: ax_ALL) 1 60 [.int x0] (fJ1_canEncode_fc78d x0) :=
  Ct.of hl (by decide +kernel) (Nat.le_of_ble_eq_true rfl) fun Γ C _ _ _ _ e5 e6 e7 T hin => oJ1_canEncode_fc78d C T e5 ⟨e6, e7⟩ hin x0 _
/-! java/lang/AbstractStringBuilder.append(C)Ljava/lang/AbstractStringBuilder; -/
def fJ5_append_3fe6f_56  (a0 : Nat) (x1 : Int32) (s0 : AS) : Option AR :=
  gR s0 a0 1 0 (fun q1 =>
  gI s0 a0 1 3 (fun v2 =>
  sI s0 a0 1 3 (v2 + 1) (fun s3 =>
  none)))
def fJ5_append_3fe6f_45  (a0 : Nat) (x1 : Int32) (s0 : AS) : Option AR :=
  cV s0 a0 1 (fJ5_isLatin1_aae02 a0 s0) (qI (fun v1 s2 =>
  if v1 = 0 then (
    fJ5_append_3fe6f_56 a0 x1 s2)
  else (
    none)))
def fJ5_append_3fe6f (a0 : Nat) (x1 : Int32) (s0 : AS) : Option AR :=
  gI s0 a0 1 3 (fun v1 =>
  cV s0 a0 1 (fJ5_ensureCapacityInternal_d00df a0 (v1 + 1) s0) (qV (fun s2 =>
  cV s2 a0 1 (fJ5_isLatin1_aae02 a0 s2) (qI (fun v3 s4 =>
  if v3 = 0 then (
    fJ5_append_3fe6f_45 a0 x1 s4)
  else (
    cS s4 (fJ1_canEncode_fc78d x1 s4) (qI (fun v5 s6 =>
    if v5 = 0 then (
      fJ5_append_3fe6f_45 a0 x1 s6)
    else (
      gR s6 a0 1 0 (fun q7 =>
      gI s6 a0 1 3 (fun v8 =>
      sI s6 a0 1 3 (v8 + 1) (fun s9 =>
      uN 103 .byte s9 q7 v8 (x1.toInt8.toInt32) (fun s10 =>
      some (.inl (some (.ref a0)), s10))))))))))))))
set_option maxHeartbeats 4000000 in
theorem oJ5_append_3fe6f_56 {Γ : CX} (C : OKC Γ cJ5_append_3fe6f RJ5 (some (.object "java/lang/AbstractStringBuilder"))) (T : ∀ z ∈ (cx_c Γ).exceptionTable.toList, False) (hn : cx_nL Γ = 2) (hR : cx_fr Γ = 5 ∧ cx_lo Γ = 144) (hin : (cx_meth Γ).name = yJ5_append_3fe6f.name) : ∀ (a0 : Nat) (x1 : Int32) (s0 : AS), OK Γ 56 [(0, .ref a0), (1, .int x1)] [] (fJ5_append_3fe6f_56  a0 x1 s0) s0 := by
  intro a0 x1 s0
  unfold fJ5_append_3fe6f_56
  refine ok_aload_n C 0 dJ5_append_3fe6f_56 rfl ?_
  refine ok_getR C frJ5_15_1 dJ5_append_3fe6f_57 (fun q1 => ?_)
  refine ok_aload_n C 0 dJ5_append_3fe6f_60 rfl ?_
  refine ok_dup C dJ5_append_3fe6f_61 rfl ?_
  refine ok_getI C frJ5_79_1 dJ5_append_3fe6f_62 (fun v2 => ?_)
  refine ok_dup_x1 C dJ5_append_3fe6f_65 rfl rfl ?_
  refine ok_iconst C (v := 1) dJ5_append_3fe6f_66 (by decide) ?_
  refine ok_iadd C dJ5_append_3fe6f_67 ?_
  refine ok_putI C flJ5_79_1 dJ5_append_3fe6f_68 (fun s3 _ => ?_)
  refine ok_iload_n C 1 dJ5_append_3fe6f_71 rfl ?_
  exact OK.none
set_option maxHeartbeats 4000000 in
theorem oJ5_append_3fe6f_45 {Γ : CX} (C : OKC Γ cJ5_append_3fe6f RJ5 (some (.object "java/lang/AbstractStringBuilder"))) (T : ∀ z ∈ (cx_c Γ).exceptionTable.toList, False) (hn : cx_nL Γ = 2) (hR : cx_fr Γ = 5 ∧ cx_lo Γ = 144) (hin : (cx_meth Γ).name = yJ5_append_3fe6f.name) : ∀ (a0 : Nat) (x1 : Int32) (s0 : AS), OK Γ 45 [(0, .ref a0), (1, .int x1)] [] (fJ5_append_3fe6f_45  a0 x1 s0) s0 := by
  intro a0 x1 s0
  unfold fJ5_append_3fe6f_45
  refine ok_aload_n C 0 dJ5_append_3fe6f_45 rfl ?_
  refine ok_callU C T [] (F := fJ5_isLatin1_aae02 a0) (ctJ5_isLatin1_aae02 (C.2.2.2.2.2.2.2.2.1) a0) unJ5_83 rfl (by decide) rfl (by rw [hR.1, hR.2]; decide) (Nat.le_of_ble_eq_true rfl) dJ5_append_3fe6f_46 (ok_qI fun v1 s2 => ?_)
  refine ok_if_eq C 56 dJ5_append_3fe6f_49 (by decide) ?_ ?_
  · exact oJ5_append_3fe6f_56 C T hn hR hin a0 x1 s2
  · refine ok_aload_n C 0 dJ5_append_3fe6f_52 rfl ?_
    exact OK.none
set_option maxHeartbeats 4000000 in
theorem oJ5_append_3fe6f {Γ : CX} (C : OKC Γ cJ5_append_3fe6f RJ5 (some (.object "java/lang/AbstractStringBuilder"))) (T : ∀ z ∈ (cx_c Γ).exceptionTable.toList, False) (hn : cx_nL Γ = 2) (hR : cx_fr Γ = 5 ∧ cx_lo Γ = 144) (hin : (cx_meth Γ).name = yJ5_append_3fe6f.name) : ∀ (a0 : Nat) (x1 : Int32) (s0 : AS), OK Γ 0 [(0, .ref a0), (1, .int x1)] [] (fJ5_append_3fe6f a0 x1 s0) s0 := by
  intro a0 x1 s0
  unfold fJ5_append_3fe6f
  refine ok_aload_n C 0 dJ5_append_3fe6f_0 rfl ?_
  refine ok_aload_n C 0 dJ5_append_3fe6f_1 rfl ?_
  refine ok_getI C frJ5_79_1 dJ5_append_3fe6f_2 (fun v1 => ?_)
  refine ok_iconst C (v := 1) dJ5_append_3fe6f_5 (by decide) ?_
  refine ok_iadd C dJ5_append_3fe6f_6 ?_
  refine ok_callU C T [.int (v1 + 1)] (F := fJ5_ensureCapacityInternal_d00df a0 (v1 + 1)) (ctJ5_ensureCapacityInternal_d00df (C.2.2.2.2.2.2.2.2.1) a0 (v1 + 1)) unJ5_100 rfl (by decide) rfl (by rw [hR.1, hR.2]; decide) (Nat.le_of_ble_eq_true rfl) dJ5_append_3fe6f_7 (ok_qV fun s2 => ?_)
  refine ok_aload_n C 0 dJ5_append_3fe6f_10 rfl ?_
  refine ok_callU C T [] (F := fJ5_isLatin1_aae02 a0) (ctJ5_isLatin1_aae02 (C.2.2.2.2.2.2.2.2.1) a0) unJ5_83 rfl (by decide) rfl (by rw [hR.1, hR.2]; decide) (Nat.le_of_ble_eq_true rfl) dJ5_append_3fe6f_11 (ok_qI fun v3 s4 => ?_)
  refine ok_if_eq C 45 dJ5_append_3fe6f_14 (by decide) ?_ ?_
  · exact oJ5_append_3fe6f_45 C T hn hR hin a0 x1 s4
  · refine ok_iload_n C 1 dJ5_append_3fe6f_17 rfl ?_
    refine ok_callS C T [.int x1] (F := fJ1_canEncode_fc78d x1) (ctJ1_canEncode_fc78d (C.2.2.2.2.2.2.2.2.1) x1) vlJ5_191 kw_95 rfl (by rw [hR.1, hR.2]; decide) (Nat.le_of_ble_eq_true rfl) dJ5_append_3fe6f_18 (ok_qI fun v5 s6 => ?_)
    refine ok_if_eq C 45 dJ5_append_3fe6f_21 (by decide) ?_ ?_
    · exact oJ5_append_3fe6f_45 C T hn hR hin a0 x1 s6
    · refine ok_aload_n C 0 dJ5_append_3fe6f_24 rfl ?_
      refine ok_getR C frJ5_15_1 dJ5_append_3fe6f_25 (fun q7 => ?_)
      refine ok_aload_n C 0 dJ5_append_3fe6f_28 rfl ?_
      refine ok_dup C dJ5_append_3fe6f_29 rfl ?_
      refine ok_getI C frJ5_79_1 dJ5_append_3fe6f_30 (fun v8 => ?_)
      refine ok_dup_x1 C dJ5_append_3fe6f_33 rfl rfl ?_
      refine ok_iconst C (v := 1) dJ5_append_3fe6f_34 (by decide) ?_
      refine ok_iadd C dJ5_append_3fe6f_35 ?_
      refine ok_putI C flJ5_79_1 dJ5_append_3fe6f_36 (fun s9 _ => ?_)
      refine ok_iload_n C 1 dJ5_append_3fe6f_39 rfl ?_
      refine ok_i2b C dJ5_append_3fe6f_40 ?_
      refine ok_bast C dJ5_append_3fe6f_41 (fun s10 _ => ?_)
      refine ok_goto C 75 dJ5_append_3fe6f_42 (by decide) ?_
      refine ok_aload_n C 0 dJ5_append_3fe6f_75 rfl ?_
      exact ok_areturn C (by first | exact Or.inl ⟨_, rfl⟩ | exact Or.inr ⟨_, rfl⟩) dJ5_append_3fe6f_76
theorem ctJ5_append_3fe6f {l : Launch} (hl : l.stackTraces = false) {D : va_G} {dA : Nat → ClassId} {B0 : Nat} (a0 : Nat) (x1 : Int32) : Ct l D dA B0 yJ5_append_3fe6f (.code yJ5_append_3fe6f cJ5_append_3fe6f 2 (some (.object "java/lang/AbstractStringBuilder")) :: ax_ALL) 5 144 [.ref a0, .int x1] (fJ5_append_3fe6f a0 x1) :=
  Ct.of hl (by decide +kernel) (Nat.le_of_ble_eq_true rfl) fun Γ C _ _ _ _ e5 e6 e7 T hin => oJ5_append_3fe6f C T e5 ⟨e6, e7⟩ hin a0 x1 _
/-! java/lang/StringBuilder.append(C)Ljava/lang/StringBuilder; -/
def fJ4_append_cf468 (a0 : Nat) (x1 : Int32) (s0 : AS) : Option AR :=
  cV s0 a0 1 (fJ5_append_3fe6f a0 x1 s0) (qR (fun q1 s2 =>
  some (.inl (some (.ref a0)), s2)))
set_option maxHeartbeats 4000000 in
theorem oJ4_append_cf468 {Γ : CX} (C : OKC Γ cJ4_append_cf468 RJ4 (some (.object "java/lang/StringBuilder"))) (T : ∀ z ∈ (cx_c Γ).exceptionTable.toList, False) (hn : cx_nL Γ = 2) (hR : cx_fr Γ = 6 ∧ cx_lo Γ = 165) (hin : (cx_meth Γ).name = yJ4_append_cf468.name) : ∀ (a0 : Nat) (x1 : Int32) (s0 : AS), OK Γ 0 [(0, .ref a0), (1, .int x1)] [] (fJ4_append_cf468 a0 x1 s0) s0 := by
  intro a0 x1 s0
  unfold fJ4_append_cf468
  refine ok_aload_n C 0 dJ4_append_cf468_0 rfl ?_
  refine ok_iload_n C 1 dJ4_append_cf468_1 rfl ?_
  refine ok_callSU C T [.int x1] (F := fJ5_append_3fe6f a0 x1) (ctJ5_append_3fe6f (C.2.2.2.2.2.2.2.2.1) a0 x1) suJ4_50 rfl (by decide) rfl (by rw [hR.1, hR.2]; decide) (Nat.le_of_ble_eq_true rfl) dJ4_append_cf468_2 (ok_qR fun q1 s2 => ?_)
  refine ok_pop C dJ4_append_cf468_5 rfl ?_
  refine ok_aload_n C 0 dJ4_append_cf468_6 rfl ?_
  exact ok_areturn C (by first | exact Or.inl ⟨_, rfl⟩ | exact Or.inr ⟨_, rfl⟩) dJ4_append_cf468_7
theorem ctJ4_append_cf468 {l : Launch} (hl : l.stackTraces = false) {D : va_G} {dA : Nat → ClassId} {B0 : Nat} (a0 : Nat) (x1 : Int32) : Ct l D dA B0 yJ4_append_cf468 (.code yJ4_append_cf468 cJ4_append_cf468 2 (some (.object "java/lang/StringBuilder")) :: ax_ALL) 6 165 [.ref a0, .int x1] (fJ4_append_cf468 a0 x1) :=
  Ct.of hl (by decide +kernel) (Nat.le_of_ble_eq_true rfl) fun Γ C _ _ _ _ e5 e6 e7 T hin => oJ4_append_cf468 C T e5 ⟨e6, e7⟩ hin a0 x1 _
/-! java/lang/Integer.stringSize(I)I -/
def fJ6_stringSize_0f7a4_16  : Nat → Int32 → Int32 → Int32 → Int32 → AS → Option AR
  | 0, _, _, _, _, _ => none
  | n + 1, x0, x1, x2, x3, s0 =>
    if (10 : Int32) ≤ x3 then (
      some (.inl (some (.int (10 + x1))), s0))
    else (
      if x0 ≤ x2 then (
        lt (10 * x2) (fun v1 =>
        lt (x3 + 1) (fun v2 =>
        fJ6_stringSize_0f7a4_16 n x0 x1 v1 v2 s0)))
      else (
        some (.inl (some (.int (x3 + x1))), s0)))
def fJ6_stringSize_0f7a4_11  (x0 : Int32) (x1 : Int32) (s0 : AS) : Option AR :=
  lt ((-10)) (fun v1 =>
  fJ6_stringSize_0f7a4_16 FU x0 x1 v1 1 s0)
def fJ6_stringSize_0f7a4 (x0 : Int32) (s0 : AS) : Option AR :=
  if x0 < 0 then (
    fJ6_stringSize_0f7a4_11 x0 1 s0)
  else (
    lt (-x0) (fun v1 =>
    fJ6_stringSize_0f7a4_11 v1 0 s0))
set_option maxHeartbeats 4000000 in
theorem oJ6_stringSize_0f7a4_16 {Γ : CX} (C : OKC Γ cJ6_stringSize_0f7a4 RJ6 (some (.int))) (T : ∀ z ∈ (cx_c Γ).exceptionTable.toList, False) (hn : cx_nL Γ = 4) (hR : cx_fr Γ = 1 ∧ cx_lo Γ = 60) (hin : (cx_meth Γ).name = yJ6_stringSize_0f7a4.name) : ∀ (n : Nat) (x0 : Int32) (x1 : Int32) (x2 : Int32) (x3 : Int32) (s0 : AS), OK Γ 16 [(0, .int x0), (1, .int x1), (2, .int x2), (3, .int x3)] [] (fJ6_stringSize_0f7a4_16 n x0 x1 x2 x3 s0) s0 := by
  intro n
  induction n with
  | zero => intro _ _ _ _ s0; exact OK.none
  | succ n ih =>
    intro x0 x1 x2 x3 s0
    rw [fJ6_stringSize_0f7a4_16]
    refine ok_iload_n C 3 dJ6_stringSize_0f7a4_16 rfl ?_
    refine ok_bipush C (v := 10) dJ6_stringSize_0f7a4_17 (by decide) ?_
    refine ok_icmp_ge C 42 dJ6_stringSize_0f7a4_19 (by decide) ?_ ?_
    · refine ok_bipush C (v := 10) dJ6_stringSize_0f7a4_42 (by decide) ?_
      refine ok_iload_n C 1 dJ6_stringSize_0f7a4_44 rfl ?_
      refine ok_iadd C dJ6_stringSize_0f7a4_45 ?_
      exact ok_ireturn C dJ6_stringSize_0f7a4_46
    · refine ok_iload_n C 0 dJ6_stringSize_0f7a4_22 rfl ?_
      refine ok_iload_n C 2 dJ6_stringSize_0f7a4_23 rfl ?_
      refine ok_icmp_le C 31 dJ6_stringSize_0f7a4_24 (by decide) ?_ ?_
      · refine ok_bipush C (v := 10) dJ6_stringSize_0f7a4_31 (by decide) ?_
        refine ok_iload_n C 2 dJ6_stringSize_0f7a4_33 rfl ?_
        refine ok_imul C dJ6_stringSize_0f7a4_34 ?_
        refine ok_lt (fun v1 => ?_)
        refine ok_istore_n C (i := 2) [(2, .int v1), (0, .int x0), (1, .int x1), (3, .int x3)] dJ6_stringSize_0f7a4_35 rfl (by rw [hn]; decide) rfl ?_
        refine ok_iincL C 3 (c := 1) (fun v2 => [(3, .int v2), (2, .int v1), (0, .int x0), (1, .int x1)]) dJ6_stringSize_0f7a4_36 rfl rfl (by rw [hn]; decide) (fun _ => rfl) (fun v2 => ?_)
        refine ok_goto C 16 dJ6_stringSize_0f7a4_39 (by decide) ?_
        refine OK.sub (lv' := [(0, .int x0), (1, .int x1), (2, .int v1), (3, .int v2)]) [2, 3, 1, 0] rfl ?_
        exact ih x0 x1 v1 v2 s0
      · refine ok_iload_n C 3 dJ6_stringSize_0f7a4_27 rfl ?_
        refine ok_iload_n C 1 dJ6_stringSize_0f7a4_28 rfl ?_
        refine ok_iadd C dJ6_stringSize_0f7a4_29 ?_
        exact ok_ireturn C dJ6_stringSize_0f7a4_30
set_option maxHeartbeats 4000000 in
theorem oJ6_stringSize_0f7a4_11 {Γ : CX} (C : OKC Γ cJ6_stringSize_0f7a4 RJ6 (some (.int))) (T : ∀ z ∈ (cx_c Γ).exceptionTable.toList, False) (hn : cx_nL Γ = 4) (hR : cx_fr Γ = 1 ∧ cx_lo Γ = 60) (hin : (cx_meth Γ).name = yJ6_stringSize_0f7a4.name) : ∀ (x0 : Int32) (x1 : Int32) (s0 : AS), OK Γ 11 [(0, .int x0), (1, .int x1)] [] (fJ6_stringSize_0f7a4_11  x0 x1 s0) s0 := by
  intro x0 x1 s0
  unfold fJ6_stringSize_0f7a4_11
  refine ok_bipush C (v := (-10)) dJ6_stringSize_0f7a4_11 (by decide) ?_
  refine ok_lt (fun v1 => ?_)
  refine ok_istore_n C (i := 2) [(2, .int v1), (0, .int x0), (1, .int x1)] dJ6_stringSize_0f7a4_13 rfl (by rw [hn]; decide) rfl ?_
  refine ok_iconst C (v := 1) dJ6_stringSize_0f7a4_14 (by decide) ?_
  refine ok_istore_n C (i := 3) [(3, .int 1), (2, .int v1), (0, .int x0), (1, .int x1)] dJ6_stringSize_0f7a4_15 rfl (by rw [hn]; decide) rfl ?_
  refine OK.sub (lv' := [(0, .int x0), (1, .int x1), (2, .int v1), (3, .int 1)]) [2, 3, 1, 0] rfl ?_
  exact oJ6_stringSize_0f7a4_16 C T hn hR hin FU x0 x1 v1 1 s0
set_option maxHeartbeats 4000000 in
theorem oJ6_stringSize_0f7a4 {Γ : CX} (C : OKC Γ cJ6_stringSize_0f7a4 RJ6 (some (.int))) (T : ∀ z ∈ (cx_c Γ).exceptionTable.toList, False) (hn : cx_nL Γ = 4) (hR : cx_fr Γ = 1 ∧ cx_lo Γ = 60) (hin : (cx_meth Γ).name = yJ6_stringSize_0f7a4.name) : ∀ (x0 : Int32) (s0 : AS), OK Γ 0 [(0, .int x0)] [] (fJ6_stringSize_0f7a4 x0 s0) s0 := by
  intro x0 s0
  unfold fJ6_stringSize_0f7a4
  refine ok_iconst C (v := 1) dJ6_stringSize_0f7a4_0 (by decide) ?_
  refine ok_istore_n C (i := 1) [(1, .int 1), (0, .int x0)] dJ6_stringSize_0f7a4_1 rfl (by rw [hn]; decide) rfl ?_
  refine ok_iload_n C 1 dJ6_stringSize_0f7a4_2 rfl ?_
  refine ok_if_lt C 11 dJ6_stringSize_0f7a4_3 (by decide) ?_ ?_
  · refine OK.sub (lv' := [(0, .int x0), (1, .int 1)]) [1, 0] rfl ?_
    exact oJ6_stringSize_0f7a4_11 C T hn hR hin x0 1 s0
  · refine ok_iconst C (v := 0) dJ6_stringSize_0f7a4_6 (by decide) ?_
    refine ok_istore_n C (i := 1) [(1, .int 0), (0, .int x0)] dJ6_stringSize_0f7a4_7 rfl (by rw [hn]; decide) rfl ?_
    refine ok_iload_n C 1 dJ6_stringSize_0f7a4_8 rfl ?_
    refine ok_ineg C dJ6_stringSize_0f7a4_9 ?_
    refine ok_lt (fun v1 => ?_)
    refine ok_istore_n C (i := 0) [(0, .int v1), (1, .int 0)] dJ6_stringSize_0f7a4_10 rfl (by rw [hn]; decide) rfl ?_
    exact oJ6_stringSize_0f7a4_11 C T hn hR hin v1 0 s0
theorem ctJ6_stringSize_0f7a4 {l : Launch} (hl : l.stackTraces = false) {D : va_G} {dA : Nat → ClassId} {B0 : Nat} (x0 : Int32) : Ct l D dA B0 yJ6_stringSize_0f7a4 (.code yJ6_stringSize_0f7a4 cJ6_stringSize_0f7a4 4 (some (.int)) :: ax_ALL) 1 60 [.int x0] (fJ6_stringSize_0f7a4 x0) :=
  Ct.of hl (by decide +kernel) (Nat.le_of_ble_eq_true rfl) fun Γ C _ _ _ _ e5 e6 e7 T hin => oJ6_stringSize_0f7a4 C T e5 ⟨e6, e7⟩ hin x0 _
/-! java/lang/Integer.getChars(II[B)I -/
def fJ6_getChars_ba4f3_104  (a2 : Nat) (x5 : Int32) (x6 : Int32) (s0 : AS) : Option AR :=
  if x6 = 0 then (
    some (.inl (some (.int x5)), s0))
  else (
    lt (x5 + (-1)) (fun v1 =>
    uN 103 .byte s0 a2 v1 45 (fun s2 =>
    some (.inl (some (.int v1)), s2))))
def fJ6_getChars_ba4f3_72  (x0 : Int32) (a2 : Nat) (x5 : Int32) (x6 : Int32) (s0 : AS) : Option AR :=
  lt (x5 + (-1)) (fun v1 =>
  kT ax_ones (-x0) (fun v2 =>
  uN 103 .byte s0 a2 v1 v2 (fun s3 =>
  if (-9 : Int32) ≤ x0 then (
    fJ6_getChars_ba4f3_104 a2 v1 x6 s3)
  else (
    lt (v1 + (-1)) (fun v4 =>
    kT ax_tens (-x0) (fun v5 =>
    uN 103 .byte s3 a2 v4 v5 (fun s6 =>
    fJ6_getChars_ba4f3_104 a2 v4 x6 s6)))))))
def fJ6_getChars_ba4f3_22  : Nat → Int32 → Nat → Int32 → Int32 → AS → Option AR
  | 0, _, _, _, _, _ => none
  | n + 1, x0, a2, x5, x6, s0 =>
    if (-100 : Int32) < x0 then (
      fJ6_getChars_ba4f3_72 x0 a2 x5 x6 s0)
    else (
      if (100 : Int32) = 0 then none else (
      lt (x0 / 100) (fun v1 =>
      lt ((v1 * 100) - x0) (fun v2 =>
      lt (x5 + (-1)) (fun v3 =>
      kT ax_ones v2 (fun v4 =>
      uN 103 .byte s0 a2 v3 v4 (fun s5 =>
      lt (v3 + (-1)) (fun v6 =>
      kT ax_tens v2 (fun v7 =>
      uN 103 .byte s5 a2 v6 v7 (fun s8 =>
      fJ6_getChars_ba4f3_22 n v1 a2 v6 x6 s8))))))))))
def fJ6_getChars_ba4f3_12  (x0 : Int32) (a2 : Nat) (x5 : Int32) (t0 : Int32) (s0 : AS) : Option AR :=
  if t0 = 0 then (
    lt (-x0) (fun v1 =>
    fJ6_getChars_ba4f3_22 FU v1 a2 x5 t0 s0))
  else (
    fJ6_getChars_ba4f3_22 FU x0 a2 x5 t0 s0)
def fJ6_getChars_ba4f3 (x0 : Int32) (x1 : Int32) (a2 : Nat) (s0 : AS) : Option AR :=
  if 0 ≤ x0 then (
    fJ6_getChars_ba4f3_12 x0 a2 x1 0 s0)
  else (
    fJ6_getChars_ba4f3_12 x0 a2 x1 1 s0)
set_option maxHeartbeats 4000000 in
theorem oJ6_getChars_ba4f3_104 {Γ : CX} (C : OKC Γ cJ6_getChars_ba4f3 RJ6 (some (.int))) (T : ∀ z ∈ (cx_c Γ).exceptionTable.toList, False) (hn : cx_nL Γ = 7) (hR : cx_fr Γ = 1 ∧ cx_lo Γ = 60) (hin : (cx_meth Γ).name = yJ6_getChars_ba4f3.name) : ∀ (a2 : Nat) (x5 : Int32) (x6 : Int32) (s0 : AS), OK Γ 104 [(2, .ref a2), (5, .int x5), (6, .int x6)] [] (fJ6_getChars_ba4f3_104  a2 x5 x6 s0) s0 := by
  intro a2 x5 x6 s0
  unfold fJ6_getChars_ba4f3_104
  refine ok_iload C 2 dJ6_getChars_ba4f3_104 rfl ?_
  refine ok_if_eq C 118 dJ6_getChars_ba4f3_106 (by decide) ?_ ?_
  · refine ok_iload C 1 dJ6_getChars_ba4f3_118 rfl ?_
    exact ok_ireturn C dJ6_getChars_ba4f3_120
  · refine ok_aload_n C 0 dJ6_getChars_ba4f3_109 rfl ?_
    refine ok_iincL C 1 (c := (-1)) (fun v1 => [(5, .int v1), (2, .ref a2), (6, .int x6)]) dJ6_getChars_ba4f3_110 rfl rfl (by rw [hn]; decide) (fun _ => rfl) (fun v1 => ?_)
    refine ok_iload C 0 dJ6_getChars_ba4f3_113 rfl ?_
    refine ok_bipush C (v := 45) dJ6_getChars_ba4f3_115 (by decide) ?_
    refine ok_bast C dJ6_getChars_ba4f3_117 (fun s2 _ => ?_)
    refine ok_iload C 0 dJ6_getChars_ba4f3_118 rfl ?_
    exact ok_ireturn C dJ6_getChars_ba4f3_120
set_option maxHeartbeats 4000000 in
theorem oJ6_getChars_ba4f3_72 {Γ : CX} (C : OKC Γ cJ6_getChars_ba4f3 RJ6 (some (.int))) (T : ∀ z ∈ (cx_c Γ).exceptionTable.toList, False) (hn : cx_nL Γ = 7) (hR : cx_fr Γ = 1 ∧ cx_lo Γ = 60) (hin : (cx_meth Γ).name = yJ6_getChars_ba4f3.name) : ∀ (x0 : Int32) (a2 : Nat) (x5 : Int32) (x6 : Int32) (s0 : AS), OK Γ 72 [(0, .int x0), (2, .ref a2), (5, .int x5), (6, .int x6)] [] (fJ6_getChars_ba4f3_72  x0 a2 x5 x6 s0) s0 := by
  intro x0 a2 x5 x6 s0
  unfold fJ6_getChars_ba4f3_72
  refine ok_aload_n C 1 dJ6_getChars_ba4f3_72 rfl ?_
  refine ok_iincL C 2 (c := (-1)) (fun v1 => [(5, .int v1), (0, .int x0), (2, .ref a2), (6, .int x6)]) dJ6_getChars_ba4f3_73 rfl rfl (by rw [hn]; decide) (fun _ => rfl) (fun v1 => ?_)
  refine ok_iload C 0 dJ6_getChars_ba4f3_76 rfl ?_
  refine ok_getDO C kw_105 dJ6_getChars_ba4f3_78 ?_
  refine ok_iload_n C 1 dJ6_getChars_ba4f3_81 rfl ?_
  refine ok_ineg C dJ6_getChars_ba4f3_82 ?_
  refine ok_baldO C dJ6_getChars_ba4f3_83 (fun v2 => ?_)
  refine ok_bast C dJ6_getChars_ba4f3_84 (fun s3 _ => ?_)
  refine ok_iload_n C 1 dJ6_getChars_ba4f3_85 rfl ?_
  refine ok_bipush C (v := (-9)) dJ6_getChars_ba4f3_86 (by decide) ?_
  refine ok_icmp_ge C 104 dJ6_getChars_ba4f3_88 (by decide) ?_ ?_
  · refine OK.sub (lv' := [(2, .ref a2), (5, .int v1), (6, .int x6)]) [2, 0, 3] rfl ?_
    exact oJ6_getChars_ba4f3_104 C T hn hR hin a2 v1 x6 s3
  · refine ok_aload_n C 2 dJ6_getChars_ba4f3_91 rfl ?_
    refine ok_iincL C 0 (c := (-1)) (fun v4 => [(5, .int v4), (0, .int x0), (2, .ref a2), (6, .int x6)]) dJ6_getChars_ba4f3_92 rfl rfl (by rw [hn]; decide) (fun _ => rfl) (fun v4 => ?_)
    refine ok_iload C 0 dJ6_getChars_ba4f3_95 rfl ?_
    refine ok_getDT C kw_106 dJ6_getChars_ba4f3_97 ?_
    refine ok_iload_n C 1 dJ6_getChars_ba4f3_100 rfl ?_
    refine ok_ineg C dJ6_getChars_ba4f3_101 ?_
    refine ok_baldT C dJ6_getChars_ba4f3_102 (fun v5 => ?_)
    refine ok_bast C dJ6_getChars_ba4f3_103 (fun s6 _ => ?_)
    refine OK.sub (lv' := [(2, .ref a2), (5, .int v4), (6, .int x6)]) [2, 0, 3] rfl ?_
    exact oJ6_getChars_ba4f3_104 C T hn hR hin a2 v4 x6 s6
set_option maxHeartbeats 4000000 in
theorem oJ6_getChars_ba4f3_22 {Γ : CX} (C : OKC Γ cJ6_getChars_ba4f3 RJ6 (some (.int))) (T : ∀ z ∈ (cx_c Γ).exceptionTable.toList, False) (hn : cx_nL Γ = 7) (hR : cx_fr Γ = 1 ∧ cx_lo Γ = 60) (hin : (cx_meth Γ).name = yJ6_getChars_ba4f3.name) : ∀ (n : Nat) (x0 : Int32) (a2 : Nat) (x5 : Int32) (x6 : Int32) (s0 : AS), OK Γ 22 [(0, .int x0), (2, .ref a2), (5, .int x5), (6, .int x6)] [] (fJ6_getChars_ba4f3_22 n x0 a2 x5 x6 s0) s0 := by
  intro n
  induction n with
  | zero => intro _ _ _ _ s0; exact OK.none
  | succ n ih =>
    intro x0 a2 x5 x6 s0
    rw [fJ6_getChars_ba4f3_22]
    refine ok_iload_n C 0 dJ6_getChars_ba4f3_22 rfl ?_
    refine ok_bipush C (v := (-100)) dJ6_getChars_ba4f3_23 (by decide) ?_
    refine ok_icmp_gt C 72 dJ6_getChars_ba4f3_25 (by decide) ?_ ?_
    · exact oJ6_getChars_ba4f3_72 C T hn hR hin x0 a2 x5 x6 s0
    · refine ok_iload_n C 0 dJ6_getChars_ba4f3_28 rfl ?_
      refine ok_bipush C (v := 100) dJ6_getChars_ba4f3_29 (by decide) ?_
      refine ok_idiv C dJ6_getChars_ba4f3_31 ?_
      refine ok_lt (fun v1 => ?_)
      refine ok_istore_n C (i := 3) [(3, .int v1), (0, .int x0), (2, .ref a2), (5, .int x5), (6, .int x6)] dJ6_getChars_ba4f3_32 rfl (by rw [hn]; decide) rfl ?_
      refine ok_iload_n C 0 dJ6_getChars_ba4f3_33 rfl ?_
      refine ok_bipush C (v := 100) dJ6_getChars_ba4f3_34 (by decide) ?_
      refine ok_imul C dJ6_getChars_ba4f3_36 ?_
      refine ok_iload_n C 1 dJ6_getChars_ba4f3_37 rfl ?_
      refine ok_isub C dJ6_getChars_ba4f3_38 ?_
      refine ok_lt (fun v2 => ?_)
      refine ok_istore C (i := 4) [(4, .int v2), (3, .int v1), (0, .int x0), (2, .ref a2), (5, .int x5), (6, .int x6)] dJ6_getChars_ba4f3_39 (by rw [hn]; decide) rfl ?_
      refine ok_iload_n C 1 dJ6_getChars_ba4f3_41 rfl ?_
      refine ok_istore_n C (i := 0) [(0, .int v1), (4, .int v2), (3, .int v1), (2, .ref a2), (5, .int x5), (6, .int x6)] dJ6_getChars_ba4f3_42 rfl (by rw [hn]; decide) rfl ?_
      refine ok_aload_n C 3 dJ6_getChars_ba4f3_43 rfl ?_
      refine ok_iincL C 4 (c := (-1)) (fun v3 => [(5, .int v3), (0, .int v1), (4, .int v2), (3, .int v1), (2, .ref a2), (6, .int x6)]) dJ6_getChars_ba4f3_44 rfl rfl (by rw [hn]; decide) (fun _ => rfl) (fun v3 => ?_)
      refine ok_iload C 0 dJ6_getChars_ba4f3_47 rfl ?_
      refine ok_getDO C kw_105 dJ6_getChars_ba4f3_49 ?_
      refine ok_iload C 2 dJ6_getChars_ba4f3_52 rfl ?_
      refine ok_baldO C dJ6_getChars_ba4f3_54 (fun v4 => ?_)
      refine ok_bast C dJ6_getChars_ba4f3_55 (fun s5 _ => ?_)
      refine ok_aload_n C 4 dJ6_getChars_ba4f3_56 rfl ?_
      refine ok_iincL C 0 (c := (-1)) (fun v6 => [(5, .int v6), (0, .int v1), (4, .int v2), (3, .int v1), (2, .ref a2), (6, .int x6)]) dJ6_getChars_ba4f3_57 rfl rfl (by rw [hn]; decide) (fun _ => rfl) (fun v6 => ?_)
      refine ok_iload C 0 dJ6_getChars_ba4f3_60 rfl ?_
      refine ok_getDT C kw_106 dJ6_getChars_ba4f3_62 ?_
      refine ok_iload C 2 dJ6_getChars_ba4f3_65 rfl ?_
      refine ok_baldT C dJ6_getChars_ba4f3_67 (fun v7 => ?_)
      refine ok_bast C dJ6_getChars_ba4f3_68 (fun s8 _ => ?_)
      refine ok_goto C 22 dJ6_getChars_ba4f3_69 (by decide) ?_
      refine OK.sub (lv' := [(0, .int v1), (2, .ref a2), (5, .int v6), (6, .int x6)]) [1, 4, 0, 5] rfl ?_
      exact ih v1 a2 v6 x6 s8
set_option maxHeartbeats 4000000 in
theorem oJ6_getChars_ba4f3_12 {Γ : CX} (C : OKC Γ cJ6_getChars_ba4f3 RJ6 (some (.int))) (T : ∀ z ∈ (cx_c Γ).exceptionTable.toList, False) (hn : cx_nL Γ = 7) (hR : cx_fr Γ = 1 ∧ cx_lo Γ = 60) (hin : (cx_meth Γ).name = yJ6_getChars_ba4f3.name) : ∀ (x0 : Int32) (a2 : Nat) (x5 : Int32) (t0 : Int32) (s0 : AS), OK Γ 12 [(0, .int x0), (2, .ref a2), (5, .int x5)] [.int t0] (fJ6_getChars_ba4f3_12  x0 a2 x5 t0 s0) s0 := by
  intro x0 a2 x5 t0 s0
  unfold fJ6_getChars_ba4f3_12
  refine ok_istore C (i := 6) [(6, .int t0), (0, .int x0), (2, .ref a2), (5, .int x5)] dJ6_getChars_ba4f3_12 (by rw [hn]; decide) rfl ?_
  refine ok_iload C 0 dJ6_getChars_ba4f3_14 rfl ?_
  refine ok_if_ne C 22 dJ6_getChars_ba4f3_16 (by decide) ?_ ?_
  · refine OK.sub (lv' := [(0, .int x0), (2, .ref a2), (5, .int x5), (6, .int t0)]) [1, 2, 3, 0] rfl ?_
    exact oJ6_getChars_ba4f3_22 C T hn hR hin FU x0 a2 x5 t0 s0
  · refine ok_iload_n C 1 dJ6_getChars_ba4f3_19 rfl ?_
    refine ok_ineg C dJ6_getChars_ba4f3_20 ?_
    refine ok_lt (fun v1 => ?_)
    refine ok_istore_n C (i := 0) [(0, .int v1), (6, .int t0), (2, .ref a2), (5, .int x5)] dJ6_getChars_ba4f3_21 rfl (by rw [hn]; decide) rfl ?_
    refine OK.sub (lv' := [(0, .int v1), (2, .ref a2), (5, .int x5), (6, .int t0)]) [0, 2, 3, 1] rfl ?_
    exact oJ6_getChars_ba4f3_22 C T hn hR hin FU v1 a2 x5 t0 s0
set_option maxHeartbeats 4000000 in
theorem oJ6_getChars_ba4f3 {Γ : CX} (C : OKC Γ cJ6_getChars_ba4f3 RJ6 (some (.int))) (T : ∀ z ∈ (cx_c Γ).exceptionTable.toList, False) (hn : cx_nL Γ = 7) (hR : cx_fr Γ = 1 ∧ cx_lo Γ = 60) (hin : (cx_meth Γ).name = yJ6_getChars_ba4f3.name) : ∀ (x0 : Int32) (x1 : Int32) (a2 : Nat) (s0 : AS), OK Γ 0 [(0, .int x0), (1, .int x1), (2, .ref a2)] [] (fJ6_getChars_ba4f3 x0 x1 a2 s0) s0 := by
  intro x0 x1 a2 s0
  unfold fJ6_getChars_ba4f3
  refine ok_iload_n C 1 dJ6_getChars_ba4f3_0 rfl ?_
  refine ok_istore C (i := 5) [(5, .int x1), (0, .int x0), (1, .int x1), (2, .ref a2)] dJ6_getChars_ba4f3_1 (by rw [hn]; decide) rfl ?_
  refine ok_iload_n C 1 dJ6_getChars_ba4f3_3 rfl ?_
  refine ok_if_ge C 11 dJ6_getChars_ba4f3_4 (by decide) ?_ ?_
  · refine ok_iconst C (v := 0) dJ6_getChars_ba4f3_11 (by decide) ?_
    refine OK.sub (lv' := [(0, .int x0), (2, .ref a2), (5, .int x1)]) [1, 3, 0] rfl ?_
    exact oJ6_getChars_ba4f3_12 C T hn hR hin x0 a2 x1 0 s0
  · refine ok_iconst C (v := 1) dJ6_getChars_ba4f3_7 (by decide) ?_
    refine ok_goto C 12 dJ6_getChars_ba4f3_8 (by decide) ?_
    refine OK.sub (lv' := [(0, .int x0), (2, .ref a2), (5, .int x1)]) [1, 3, 0] rfl ?_
    exact oJ6_getChars_ba4f3_12 C T hn hR hin x0 a2 x1 1 s0
theorem ctJ6_getChars_ba4f3 {l : Launch} (hl : l.stackTraces = false) {D : va_G} {dA : Nat → ClassId} {B0 : Nat} (x0 : Int32) (x1 : Int32) (a2 : Nat) : Ct l D dA B0 yJ6_getChars_ba4f3 (.code yJ6_getChars_ba4f3 cJ6_getChars_ba4f3 7 (some (.int)) :: ax_ALL) 1 60 [.int x0, .int x1, .ref a2] (fJ6_getChars_ba4f3 x0 x1 a2) :=
  Ct.of hl (by decide +kernel) (Nat.le_of_ble_eq_true rfl) fun Γ C _ _ _ _ e5 e6 e7 T hin => oJ6_getChars_ba4f3 C T e5 ⟨e6, e7⟩ hin x0 x1 a2 _
/-! java/lang/AbstractStringBuilder.append(I)Ljava/lang/AbstractStringBuilder; -/
def fJ5_append_c97b9_48  (a0 : Nat) (x3 : Int32) (s0 : AS) : Option AR :=
  sI s0 a0 1 3 x3 (fun s1 =>
  some (.inl (some (.ref a0)), s1))
def fJ5_append_c97b9 (a0 : Nat) (x1 : Int32) (s0 : AS) : Option AR :=
  gI s0 a0 1 3 (fun v1 =>
  cS s0 (fJ6_stringSize_0f7a4 x1 s0) (qI (fun v2 s3 =>
  lt (v1 + v2) (fun v4 =>
  cV s3 a0 1 (fJ5_ensureCapacityInternal_d00df a0 v4 s3) (qV (fun s5 =>
  cV s5 a0 1 (fJ5_isLatin1_aae02 a0 s5) (qI (fun v6 s7 =>
  if v6 = 0 then (
    gR s7 a0 1 0 (fun q8 =>
    none))
  else (
    gR s7 a0 1 0 (fun q9 =>
    cS s7 (fJ6_getChars_ba4f3 x1 v4 q9 s7) (qI (fun v10 s11 =>
    fJ5_append_c97b9_48 a0 v4 s11))))))))))))
set_option maxHeartbeats 4000000 in
theorem oJ5_append_c97b9_48 {Γ : CX} (C : OKC Γ cJ5_append_c97b9 RJ5 (some (.object "java/lang/AbstractStringBuilder"))) (T : ∀ z ∈ (cx_c Γ).exceptionTable.toList, False) (hn : cx_nL Γ = 4) (hR : cx_fr Γ = 5 ∧ cx_lo Γ = 144) (hin : (cx_meth Γ).name = yJ5_append_c97b9.name) : ∀ (a0 : Nat) (x3 : Int32) (s0 : AS), OK Γ 48 [(0, .ref a0), (3, .int x3)] [] (fJ5_append_c97b9_48  a0 x3 s0) s0 := by
  intro a0 x3 s0
  unfold fJ5_append_c97b9_48
  refine ok_aload_n C 0 dJ5_append_c97b9_48 rfl ?_
  refine ok_iload_n C 1 dJ5_append_c97b9_49 rfl ?_
  refine ok_putI C flJ5_79_1 dJ5_append_c97b9_50 (fun s1 _ => ?_)
  refine ok_aload_n C 0 dJ5_append_c97b9_53 rfl ?_
  exact ok_areturn C (by first | exact Or.inl ⟨_, rfl⟩ | exact Or.inr ⟨_, rfl⟩) dJ5_append_c97b9_54
set_option maxHeartbeats 4000000 in
theorem oJ5_append_c97b9 {Γ : CX} (C : OKC Γ cJ5_append_c97b9 RJ5 (some (.object "java/lang/AbstractStringBuilder"))) (T : ∀ z ∈ (cx_c Γ).exceptionTable.toList, False) (hn : cx_nL Γ = 4) (hR : cx_fr Γ = 5 ∧ cx_lo Γ = 144) (hin : (cx_meth Γ).name = yJ5_append_c97b9.name) : ∀ (a0 : Nat) (x1 : Int32) (s0 : AS), OK Γ 0 [(0, .ref a0), (1, .int x1)] [] (fJ5_append_c97b9 a0 x1 s0) s0 := by
  intro a0 x1 s0
  unfold fJ5_append_c97b9
  refine ok_aload_n C 0 dJ5_append_c97b9_0 rfl ?_
  refine ok_getI C frJ5_79_1 dJ5_append_c97b9_1 (fun v1 => ?_)
  refine ok_istore_n C (i := 2) [(2, .int v1), (0, .ref a0), (1, .int x1)] dJ5_append_c97b9_4 rfl (by rw [hn]; decide) rfl ?_
  refine ok_iload_n C 0 dJ5_append_c97b9_5 rfl ?_
  refine ok_iload_n C 2 dJ5_append_c97b9_6 rfl ?_
  refine ok_callS C T [.int x1] (F := fJ6_stringSize_0f7a4 x1) (ctJ6_stringSize_0f7a4 (C.2.2.2.2.2.2.2.2.1) x1) vlJ5_245 kw_104 rfl (by rw [hR.1, hR.2]; decide) (Nat.le_of_ble_eq_true rfl) dJ5_append_c97b9_7 (ok_qI fun v2 s3 => ?_)
  refine ok_iadd C dJ5_append_c97b9_10 ?_
  refine ok_lt (fun v4 => ?_)
  refine ok_istore_n C (i := 3) [(3, .int v4), (2, .int v1), (0, .ref a0), (1, .int x1)] dJ5_append_c97b9_11 rfl (by rw [hn]; decide) rfl ?_
  refine ok_aload_n C 2 dJ5_append_c97b9_12 rfl ?_
  refine ok_iload_n C 0 dJ5_append_c97b9_13 rfl ?_
  refine ok_callU C T [.int v4] (F := fJ5_ensureCapacityInternal_d00df a0 v4) (ctJ5_ensureCapacityInternal_d00df (C.2.2.2.2.2.2.2.2.1) a0 v4) unJ5_100 rfl (by decide) rfl (by rw [hR.1, hR.2]; decide) (Nat.le_of_ble_eq_true rfl) dJ5_append_c97b9_14 (ok_qV fun s5 => ?_)
  refine ok_aload_n C 2 dJ5_append_c97b9_17 rfl ?_
  refine ok_callU C T [] (F := fJ5_isLatin1_aae02 a0) (ctJ5_isLatin1_aae02 (C.2.2.2.2.2.2.2.2.1) a0) unJ5_83 rfl (by decide) rfl (by rw [hR.1, hR.2]; decide) (Nat.le_of_ble_eq_true rfl) dJ5_append_c97b9_18 (ok_qI fun v6 s7 => ?_)
  refine ok_if_eq C 37 dJ5_append_c97b9_21 (by decide) ?_ ?_
  · refine ok_iload_n C 3 dJ5_append_c97b9_37 rfl ?_
    refine ok_iload_n C 1 dJ5_append_c97b9_38 rfl ?_
    refine ok_iload_n C 0 dJ5_append_c97b9_39 rfl ?_
    refine ok_aload_n C 2 dJ5_append_c97b9_40 rfl ?_
    refine ok_getR C frJ5_15_1 dJ5_append_c97b9_41 (fun q8 => ?_)
    exact OK.none
  · refine ok_iload_n C 3 dJ5_append_c97b9_24 rfl ?_
    refine ok_iload_n C 0 dJ5_append_c97b9_25 rfl ?_
    refine ok_aload_n C 2 dJ5_append_c97b9_26 rfl ?_
    refine ok_getR C frJ5_15_1 dJ5_append_c97b9_27 (fun q9 => ?_)
    refine ok_callS C T [.int x1, .int v4, .ref q9] (F := fJ6_getChars_ba4f3 x1 v4 q9) (ctJ6_getChars_ba4f3 (C.2.2.2.2.2.2.2.2.1) x1 v4 q9) vlJ5_248 kw_109 rfl (by rw [hR.1, hR.2]; decide) (Nat.le_of_ble_eq_true rfl) dJ5_append_c97b9_30 (ok_qI fun v10 s11 => ?_)
    refine ok_pop C dJ5_append_c97b9_33 rfl ?_
    refine ok_goto C 48 dJ5_append_c97b9_34 (by decide) ?_
    refine OK.sub (lv' := [(0, .ref a0), (3, .int v4)]) [2, 0] rfl ?_
    exact oJ5_append_c97b9_48 C T hn hR hin a0 v4 s11
theorem ctJ5_append_c97b9 {l : Launch} (hl : l.stackTraces = false) {D : va_G} {dA : Nat → ClassId} {B0 : Nat} (a0 : Nat) (x1 : Int32) : Ct l D dA B0 yJ5_append_c97b9 (.code yJ5_append_c97b9 cJ5_append_c97b9 4 (some (.object "java/lang/AbstractStringBuilder")) :: ax_ALL) 5 144 [.ref a0, .int x1] (fJ5_append_c97b9 a0 x1) :=
  Ct.of hl (by decide +kernel) (Nat.le_of_ble_eq_true rfl) fun Γ C _ _ _ _ e5 e6 e7 T hin => oJ5_append_c97b9 C T e5 ⟨e6, e7⟩ hin a0 x1 _
/-! java/lang/StringBuilder.append(I)Ljava/lang/StringBuilder; -/
def fJ4_append_bf812 (a0 : Nat) (x1 : Int32) (s0 : AS) : Option AR :=
  cV s0 a0 1 (fJ5_append_c97b9 a0 x1 s0) (qR (fun q1 s2 =>
  some (.inl (some (.ref a0)), s2)))
set_option maxHeartbeats 4000000 in
theorem oJ4_append_bf812 {Γ : CX} (C : OKC Γ cJ4_append_bf812 RJ4 (some (.object "java/lang/StringBuilder"))) (T : ∀ z ∈ (cx_c Γ).exceptionTable.toList, False) (hn : cx_nL Γ = 2) (hR : cx_fr Γ = 6 ∧ cx_lo Γ = 167) (hin : (cx_meth Γ).name = yJ4_append_bf812.name) : ∀ (a0 : Nat) (x1 : Int32) (s0 : AS), OK Γ 0 [(0, .ref a0), (1, .int x1)] [] (fJ4_append_bf812 a0 x1 s0) s0 := by
  intro a0 x1 s0
  unfold fJ4_append_bf812
  refine ok_aload_n C 0 dJ4_append_bf812_0 rfl ?_
  refine ok_iload_n C 1 dJ4_append_bf812_1 rfl ?_
  refine ok_callSU C T [.int x1] (F := fJ5_append_c97b9 a0 x1) (ctJ5_append_c97b9 (C.2.2.2.2.2.2.2.2.1) a0 x1) suJ4_53 rfl (by decide) rfl (by rw [hR.1, hR.2]; decide) (Nat.le_of_ble_eq_true rfl) dJ4_append_bf812_2 (ok_qR fun q1 s2 => ?_)
  refine ok_pop C dJ4_append_bf812_5 rfl ?_
  refine ok_aload_n C 0 dJ4_append_bf812_6 rfl ?_
  exact ok_areturn C (by first | exact Or.inl ⟨_, rfl⟩ | exact Or.inr ⟨_, rfl⟩) dJ4_append_bf812_7
theorem ctJ4_append_bf812 {l : Launch} (hl : l.stackTraces = false) {D : va_G} {dA : Nat → ClassId} {B0 : Nat} (a0 : Nat) (x1 : Int32) : Ct l D dA B0 yJ4_append_bf812 (.code yJ4_append_bf812 cJ4_append_bf812 2 (some (.object "java/lang/StringBuilder")) :: ax_ALL) 6 167 [.ref a0, .int x1] (fJ4_append_bf812 a0 x1) :=
  Ct.of hl (by decide +kernel) (Nat.le_of_ble_eq_true rfl) fun Γ C _ _ _ _ e5 e6 e7 T hin => oJ4_append_bf812 C T e5 ⟨e6, e7⟩ hin a0 x1 _
/-! java/lang/AbstractStringBuilder.length()I -/
def fJ5_length_8abf5 (a0 : Nat) (s0 : AS) : Option AR :=
  gI s0 a0 1 3 (fun v1 =>
  some (.inl (some (.int v1)), s0))
set_option maxHeartbeats 4000000 in
theorem oJ5_length_8abf5 {Γ : CX} (C : OKC Γ cJ5_length_8abf5 RJ5 (some (.int))) (T : ∀ z ∈ (cx_c Γ).exceptionTable.toList, False) (hn : cx_nL Γ = 1) (hR : cx_fr Γ = 1 ∧ cx_lo Γ = 60) (hin : (cx_meth Γ).name = yJ5_length_8abf5.name) : ∀ (a0 : Nat) (s0 : AS), OK Γ 0 [(0, .ref a0)] [] (fJ5_length_8abf5 a0 s0) s0 := by
  intro a0 s0
  unfold fJ5_length_8abf5
  refine ok_aload_n C 0 dJ5_length_8abf5_0 rfl ?_
  refine ok_getI C frJ5_79_1 dJ5_length_8abf5_1 (fun v1 => ?_)
  exact ok_ireturn C dJ5_length_8abf5_4
theorem ctJ5_length_8abf5 {l : Launch} (hl : l.stackTraces = false) {D : va_G} {dA : Nat → ClassId} {B0 : Nat} (a0 : Nat) : Ct l D dA B0 yJ5_length_8abf5 (.code yJ5_length_8abf5 cJ5_length_8abf5 1 (some (.int)) :: ax_ALL) 1 60 [.ref a0] (fJ5_length_8abf5 a0) :=
  Ct.of hl (by decide +kernel) (Nat.le_of_ble_eq_true rfl) fun Γ C _ _ _ _ e5 e6 e7 T hin => oJ5_length_8abf5 C T e5 ⟨e6, e7⟩ hin a0 _
/-! java/lang/StringBuilder.length()I -/
def fJ4_length_8abf5 (a0 : Nat) (s0 : AS) : Option AR :=
  cV s0 a0 1 (fJ5_length_8abf5 a0 s0) (qI (fun v1 s2 =>
  some (.inl (some (.int v1)), s2)))
set_option maxHeartbeats 4000000 in
theorem oJ4_length_8abf5 {Γ : CX} (C : OKC Γ cJ4_length_8abf5 RJ4 (some (.int))) (T : ∀ z ∈ (cx_c Γ).exceptionTable.toList, False) (hn : cx_nL Γ = 1) (hR : cx_fr Γ = 2 ∧ cx_lo Γ = 80) (hin : (cx_meth Γ).name = yJ4_length_8abf5.name) : ∀ (a0 : Nat) (s0 : AS), OK Γ 0 [(0, .ref a0)] [] (fJ4_length_8abf5 a0 s0) s0 := by
  intro a0 s0
  unfold fJ4_length_8abf5
  refine ok_aload_n C 0 dJ4_length_8abf5_0 rfl ?_
  refine ok_callSU C T [] (F := fJ5_length_8abf5 a0) (ctJ5_length_8abf5 (C.2.2.2.2.2.2.2.2.1) a0) suJ4_343 rfl (by decide) rfl (by rw [hR.1, hR.2]; decide) (Nat.le_of_ble_eq_true rfl) dJ4_length_8abf5_1 (ok_qI fun v1 s2 => ?_)
  exact ok_ireturn C dJ4_length_8abf5_4
theorem ctJ4_length_8abf5 {l : Launch} (hl : l.stackTraces = false) {D : va_G} {dA : Nat → ClassId} {B0 : Nat} (a0 : Nat) : Ct l D dA B0 yJ4_length_8abf5 (.code yJ4_length_8abf5 cJ4_length_8abf5 1 (some (.int)) :: ax_ALL) 2 80 [.ref a0] (fJ4_length_8abf5 a0) :=
  Ct.of hl (by decide +kernel) (Nat.le_of_ble_eq_true rfl) fun Γ C _ _ _ _ e5 e6 e7 T hin => oJ4_length_8abf5 C T e5 ⟨e6, e7⟩ hin a0 _
/-! java/lang/AbstractStringBuilder.setLength(I)V -/
def fJ5_setLength_d00df_76  (a0 : Nat) (x1 : Int32) (s0 : AS) : Option AR :=
  sI s0 a0 1 3 x1 (fun s1 =>
  some (.inl none, s1))
def fJ5_setLength_d00df (a0 : Nat) (x1 : Int32) (s0 : AS) : Option AR :=
  if 0 ≤ x1 then (
    cV s0 a0 1 (fJ5_ensureCapacityInternal_d00df a0 x1 s0) (qV (fun s1 =>
    gI s1 a0 1 3 (fun v2 =>
    if x1 ≤ v2 then (
      gI s1 a0 1 3 (fun v3 =>
      if v3 ≤ x1 then (
        fJ5_setLength_d00df_76 a0 x1 s1)
      else (
        sZ s1 a0 1 2 1 (fun s4 =>
        fJ5_setLength_d00df_76 a0 x1 s4))))
    else (
      cV s1 a0 1 (fJ5_isLatin1_aae02 a0 s1) (qI (fun v5 s6 =>
      if v5 = 0 then (
        gR s6 a0 1 0 (fun q7 =>
        gI s6 a0 1 3 (fun v8 =>
        none)))
      else (
        gR s6 a0 1 0 (fun q9 =>
        gI s6 a0 1 3 (fun v10 =>
        none))))))))))
  else (
    none)
set_option maxHeartbeats 4000000 in
theorem oJ5_setLength_d00df_76 {Γ : CX} (C : OKC Γ cJ5_setLength_d00df RJ5 none) (T : ∀ z ∈ (cx_c Γ).exceptionTable.toList, False) (hn : cx_nL Γ = 2) (hR : cx_fr Γ = 5 ∧ cx_lo Γ = 144) (hin : (cx_meth Γ).name = yJ5_setLength_d00df.name) : ∀ (a0 : Nat) (x1 : Int32) (s0 : AS), OK Γ 76 [(0, .ref a0), (1, .int x1)] [] (fJ5_setLength_d00df_76  a0 x1 s0) s0 := by
  intro a0 x1 s0
  unfold fJ5_setLength_d00df_76
  refine ok_aload_n C 0 dJ5_setLength_d00df_76 rfl ?_
  refine ok_iload_n C 1 dJ5_setLength_d00df_77 rfl ?_
  refine ok_putI C flJ5_79_1 dJ5_setLength_d00df_78 (fun s1 _ => ?_)
  exact ok_vreturn C dJ5_setLength_d00df_81
set_option maxHeartbeats 4000000 in
theorem oJ5_setLength_d00df {Γ : CX} (C : OKC Γ cJ5_setLength_d00df RJ5 none) (T : ∀ z ∈ (cx_c Γ).exceptionTable.toList, False) (hn : cx_nL Γ = 2) (hR : cx_fr Γ = 5 ∧ cx_lo Γ = 144) (hin : (cx_meth Γ).name = yJ5_setLength_d00df.name) : ∀ (a0 : Nat) (x1 : Int32) (s0 : AS), OK Γ 0 [(0, .ref a0), (1, .int x1)] [] (fJ5_setLength_d00df a0 x1 s0) s0 := by
  intro a0 x1 s0
  unfold fJ5_setLength_d00df
  refine ok_iload_n C 1 dJ5_setLength_d00df_0 rfl ?_
  refine ok_if_ge C 13 dJ5_setLength_d00df_1 (by decide) ?_ ?_
  · refine ok_aload_n C 0 dJ5_setLength_d00df_13 rfl ?_
    refine ok_iload_n C 1 dJ5_setLength_d00df_14 rfl ?_
    refine ok_callU C T [.int x1] (F := fJ5_ensureCapacityInternal_d00df a0 x1) (ctJ5_ensureCapacityInternal_d00df (C.2.2.2.2.2.2.2.2.1) a0 x1) unJ5_100 rfl (by decide) rfl (by rw [hR.1, hR.2]; decide) (Nat.le_of_ble_eq_true rfl) dJ5_setLength_d00df_15 (ok_qV fun s1 => ?_)
    refine ok_aload_n C 0 dJ5_setLength_d00df_18 rfl ?_
    refine ok_getI C frJ5_79_1 dJ5_setLength_d00df_19 (fun v2 => ?_)
    refine ok_iload_n C 1 dJ5_setLength_d00df_22 rfl ?_
    refine ok_icmp_ge C 63 dJ5_setLength_d00df_23 (by decide) ?_ ?_
    · refine ok_aload_n C 0 dJ5_setLength_d00df_63 rfl ?_
      refine ok_getI C frJ5_79_1 dJ5_setLength_d00df_64 (fun v3 => ?_)
      refine ok_iload_n C 1 dJ5_setLength_d00df_67 rfl ?_
      refine ok_icmp_le C 76 dJ5_setLength_d00df_68 (by decide) ?_ ?_
      · exact oJ5_setLength_d00df_76 C T hn hR hin a0 x1 s1
      · refine ok_aload_n C 0 dJ5_setLength_d00df_71 rfl ?_
        refine ok_iconst C (v := 1) dJ5_setLength_d00df_72 (by decide) ?_
        refine ok_putZ C flJ5_73_1 dJ5_setLength_d00df_73 (fun s4 _ => ?_)
        exact oJ5_setLength_d00df_76 C T hn hR hin a0 x1 s4
    · refine ok_aload_n C 0 dJ5_setLength_d00df_26 rfl ?_
      refine ok_callU C T [] (F := fJ5_isLatin1_aae02 a0) (ctJ5_isLatin1_aae02 (C.2.2.2.2.2.2.2.2.1) a0) unJ5_83 rfl (by decide) rfl (by rw [hR.1, hR.2]; decide) (Nat.le_of_ble_eq_true rfl) dJ5_setLength_d00df_27 (ok_qI fun v5 s6 => ?_)
      refine ok_if_eq C 48 dJ5_setLength_d00df_30 (by decide) ?_ ?_
      · refine ok_aload_n C 0 dJ5_setLength_d00df_48 rfl ?_
        refine ok_getR C frJ5_15_1 dJ5_setLength_d00df_49 (fun q7 => ?_)
        refine ok_aload_n C 0 dJ5_setLength_d00df_52 rfl ?_
        refine ok_getI C frJ5_79_1 dJ5_setLength_d00df_53 (fun v8 => ?_)
        refine ok_iload_n C 1 dJ5_setLength_d00df_56 rfl ?_
        exact OK.none
      · refine ok_aload_n C 0 dJ5_setLength_d00df_33 rfl ?_
        refine ok_getR C frJ5_15_1 dJ5_setLength_d00df_34 (fun q9 => ?_)
        refine ok_aload_n C 0 dJ5_setLength_d00df_37 rfl ?_
        refine ok_getI C frJ5_79_1 dJ5_setLength_d00df_38 (fun v10 => ?_)
        refine ok_iload_n C 1 dJ5_setLength_d00df_41 rfl ?_
        exact OK.none
  · exact OK.none
theorem ctJ5_setLength_d00df {l : Launch} (hl : l.stackTraces = false) {D : va_G} {dA : Nat → ClassId} {B0 : Nat} (a0 : Nat) (x1 : Int32) : Ct l D dA B0 yJ5_setLength_d00df (.code yJ5_setLength_d00df cJ5_setLength_d00df 2 (none) :: ax_ALL) 5 144 [.ref a0, .int x1] (fJ5_setLength_d00df a0 x1) :=
  Ct.of hl (by decide +kernel) (Nat.le_of_ble_eq_true rfl) fun Γ C _ _ _ _ e5 e6 e7 T hin => oJ5_setLength_d00df C T e5 ⟨e6, e7⟩ hin a0 x1 _
/-! java/lang/StringBuilder.setLength(I)V -/
def fJ4_setLength_d00df (a0 : Nat) (x1 : Int32) (s0 : AS) : Option AR :=
  cV s0 a0 1 (fJ5_setLength_d00df a0 x1 s0) (qV (fun s1 =>
  some (.inl none, s1)))
set_option maxHeartbeats 4000000 in
theorem oJ4_setLength_d00df {Γ : CX} (C : OKC Γ cJ4_setLength_d00df RJ4 none) (T : ∀ z ∈ (cx_c Γ).exceptionTable.toList, False) (hn : cx_nL Γ = 2) (hR : cx_fr Γ = 6 ∧ cx_lo Γ = 165) (hin : (cx_meth Γ).name = yJ4_setLength_d00df.name) : ∀ (a0 : Nat) (x1 : Int32) (s0 : AS), OK Γ 0 [(0, .ref a0), (1, .int x1)] [] (fJ4_setLength_d00df a0 x1 s0) s0 := by
  intro a0 x1 s0
  unfold fJ4_setLength_d00df
  refine ok_aload_n C 0 dJ4_setLength_d00df_0 rfl ?_
  refine ok_iload_n C 1 dJ4_setLength_d00df_1 rfl ?_
  refine ok_callSU C T [.int x1] (F := fJ5_setLength_d00df a0 x1) (ctJ5_setLength_d00df (C.2.2.2.2.2.2.2.2.1) a0 x1) suJ4_333 rfl (by decide) rfl (by rw [hR.1, hR.2]; decide) (Nat.le_of_ble_eq_true rfl) dJ4_setLength_d00df_2 (ok_qV fun s1 => ?_)
  exact ok_vreturn C dJ4_setLength_d00df_5
theorem ctJ4_setLength_d00df {l : Launch} (hl : l.stackTraces = false) {D : va_G} {dA : Nat → ClassId} {B0 : Nat} (a0 : Nat) (x1 : Int32) : Ct l D dA B0 yJ4_setLength_d00df (.code yJ4_setLength_d00df cJ4_setLength_d00df 2 (none) :: ax_ALL) 6 165 [.ref a0, .int x1] (fJ4_setLength_d00df a0 x1) :=
  Ct.of hl (by decide +kernel) (Nat.le_of_ble_eq_true rfl) fun Γ C _ _ _ _ e5 e6 e7 T hin => oJ4_setLength_d00df C T e5 ⟨e6, e7⟩ hin a0 x1 _
/-! java/lang/AbstractStringBuilder.charAt(I)C -/
def fJ5_charAt_5068e (a0 : Nat) (x1 : Int32) (s0 : AS) : Option AR :=
  gI s0 a0 1 1 (fun v1 =>
  gR s0 a0 1 0 (fun q2 =>
  gI s0 a0 1 3 (fun v3 =>
  aL s0 q2 103 (fun v4 =>
  lt (if (v4 >>> (v1 &&& 31)) < v3 then (v4 >>> (v1 &&& 31)) else v3) (fun v5 =>
  cS s0 (fJ0_checkIndex_df160 x1 v5 s0) (qV (fun s6 =>
  if v1 = 0 then (
    aI s6 q2 103 x1 (fun v7 =>
    rC (((v7 &&& 255).toUInt32 % 65536).toInt32) s6))
  else (
    none))))))))
set_option maxHeartbeats 4000000 in
theorem oJ5_charAt_5068e {Γ : CX} (C : OKC Γ cJ5_charAt_5068e RJ5 (some (.char))) (T : ∀ z ∈ (cx_c Γ).exceptionTable.toList, False) (hn : cx_nL Γ = 5) (hR : cx_fr Γ = 3 ∧ cx_lo Γ = 103) (hin : (cx_meth Γ).name = yJ5_charAt_5068e.name) : ∀ (a0 : Nat) (x1 : Int32) (s0 : AS), OK Γ 0 [(0, .ref a0), (1, .int x1)] [] (fJ5_charAt_5068e a0 x1 s0) s0 := by
  intro a0 x1 s0
  unfold fJ5_charAt_5068e
  refine ok_aload_n C 0 dJ5_charAt_5068e_0 rfl ?_
  refine ok_getI C frJ5_22_1 dJ5_charAt_5068e_1 (fun v1 => ?_)
  refine ok_istore_n C (i := 2) [(2, .int v1), (0, .ref a0), (1, .int x1)] dJ5_charAt_5068e_4 rfl (by rw [hn]; decide) rfl ?_
  refine ok_aload_n C 1 dJ5_charAt_5068e_5 rfl ?_
  refine ok_getR C frJ5_15_1 dJ5_charAt_5068e_6 (fun q2 => ?_)
  refine ok_astore_n C (i := 3) [(3, .ref q2), (2, .int v1), (0, .ref a0), (1, .int x1)] dJ5_charAt_5068e_9 rfl (by rw [hn]; decide) rfl ?_
  refine ok_aload_n C 2 dJ5_charAt_5068e_10 rfl ?_
  refine ok_getI C frJ5_79_1 dJ5_charAt_5068e_11 (fun v3 => ?_)
  refine ok_aload_n C 0 dJ5_charAt_5068e_14 rfl ?_
  refine ok_alen C 103 3 (fun _ => rfl) (by decide) dJ5_charAt_5068e_15 (fun v4 => ?_)
  refine ok_iload_n C 1 dJ5_charAt_5068e_16 rfl ?_
  refine ok_ishr C dJ5_charAt_5068e_17 ?_
  refine ok_mmin C mlJ5_138 (by rw [hR.1]; decide) (by rw [hR.2]; exact Nat.le_of_ble_eq_true rfl) dJ5_charAt_5068e_18 ?_
  refine ok_lt (fun v5 => ?_)
  refine ok_istore C (i := 4) [(4, .int v5), (3, .ref q2), (2, .int v1), (0, .ref a0), (1, .int x1)] dJ5_charAt_5068e_21 (by rw [hn]; decide) rfl ?_
  refine ok_iload_n C 4 dJ5_charAt_5068e_23 rfl ?_
  refine ok_iload C 0 dJ5_charAt_5068e_24 rfl ?_
  refine ok_callS C T [.int x1, .int v5] (F := fJ0_checkIndex_df160 x1 v5) (ctJ0_checkIndex_df160 (C.2.2.2.2.2.2.2.2.1) x1 v5) vlJ5_144 kw_42 rfl (by rw [hR.1, hR.2]; decide) (Nat.le_of_ble_eq_true rfl) dJ5_charAt_5068e_26 (ok_qV fun s6 => ?_)
  refine ok_iload_n C 2 dJ5_charAt_5068e_29 rfl ?_
  refine ok_if_ne C 42 dJ5_charAt_5068e_30 (by decide) ?_ ?_
  · refine ok_aload_n C 1 dJ5_charAt_5068e_42 rfl ?_
    refine ok_iload_n C 4 dJ5_charAt_5068e_43 rfl ?_
    exact OK.none
  · refine ok_aload_n C 1 dJ5_charAt_5068e_33 rfl ?_
    refine ok_iload_n C 4 dJ5_charAt_5068e_34 rfl ?_
    refine ok_bald C dJ5_charAt_5068e_35 (fun v7 => ?_)
    refine ok_sipush C (v := 255) dJ5_charAt_5068e_36 (by decide) ?_
    refine ok_iand C dJ5_charAt_5068e_39 ?_
    refine ok_i2c C dJ5_charAt_5068e_40 ?_
    exact ok_creturn C dJ5_charAt_5068e_41
theorem ctJ5_charAt_5068e {l : Launch} (hl : l.stackTraces = false) {D : va_G} {dA : Nat → ClassId} {B0 : Nat} (a0 : Nat) (x1 : Int32) : Ct l D dA B0 yJ5_charAt_5068e (.code yJ5_charAt_5068e cJ5_charAt_5068e 5 (some (.char)) :: ax_ALL) 3 103 [.ref a0, .int x1] (fJ5_charAt_5068e a0 x1) :=
  Ct.of hl (by decide +kernel) (Nat.le_of_ble_eq_true rfl) fun Γ C _ _ _ _ e5 e6 e7 T hin => oJ5_charAt_5068e C T e5 ⟨e6, e7⟩ hin a0 x1 _
/-! java/lang/StringBuilder.charAt(I)C -/
def fJ4_charAt_5068e (a0 : Nat) (x1 : Int32) (s0 : AS) : Option AR :=
  cV s0 a0 1 (fJ5_charAt_5068e a0 x1 s0) (qI (fun v1 s2 =>
  rC v1 s2))
set_option maxHeartbeats 4000000 in
theorem oJ4_charAt_5068e {Γ : CX} (C : OKC Γ cJ4_charAt_5068e RJ4 (some (.char))) (T : ∀ z ∈ (cx_c Γ).exceptionTable.toList, False) (hn : cx_nL Γ = 2) (hR : cx_fr Γ = 4 ∧ cx_lo Γ = 127) (hin : (cx_meth Γ).name = yJ4_charAt_5068e.name) : ∀ (a0 : Nat) (x1 : Int32) (s0 : AS), OK Γ 0 [(0, .ref a0), (1, .int x1)] [] (fJ4_charAt_5068e a0 x1 s0) s0 := by
  intro a0 x1 s0
  unfold fJ4_charAt_5068e
  refine ok_aload_n C 0 dJ4_charAt_5068e_0 rfl ?_
  refine ok_iload_n C 1 dJ4_charAt_5068e_1 rfl ?_
  refine ok_callSU C T [.int x1] (F := fJ5_charAt_5068e a0 x1) (ctJ5_charAt_5068e (C.2.2.2.2.2.2.2.2.1) a0 x1) suJ4_329 rfl (by decide) rfl (by rw [hR.1, hR.2]; decide) (Nat.le_of_ble_eq_true rfl) dJ4_charAt_5068e_2 (ok_qI fun v1 s2 => ?_)
  exact ok_creturn C dJ4_charAt_5068e_5
theorem ctJ4_charAt_5068e {l : Launch} (hl : l.stackTraces = false) {D : va_G} {dA : Nat → ClassId} {B0 : Nat} (a0 : Nat) (x1 : Int32) : Ct l D dA B0 yJ4_charAt_5068e (.code yJ4_charAt_5068e cJ4_charAt_5068e 2 (some (.char)) :: ax_ALL) 4 127 [.ref a0, .int x1] (fJ4_charAt_5068e a0 x1) :=
  Ct.of hl (by decide +kernel) (Nat.le_of_ble_eq_true rfl) fun Γ C _ _ _ _ e5 e6 e7 T hin => oJ4_charAt_5068e C T e5 ⟨e6, e7⟩ hin a0 x1 _
