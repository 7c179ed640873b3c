/-! ChaseLockerLaw.feeds(LChaseLocker;Ljava/lang/String;)Z -/
def fL_feeds_70 (r2 : Nat → Nat → Int32 → AS → Option AR) (a0 : Nat) (a1 : Nat) (x2 : Int32) (a3 : Nat) (s0 : AS) : Option AR :=
  aI s0 a3 100 0 (fun v1 =>
  aI s0 a3 100 1 (fun v2 =>
  aI s0 a3 100 2 (fun v3 =>
  aI s0 a3 100 3 (fun v4 =>
  aI s0 a3 100 4 (fun v5 =>
  cV s0 a0 10 (fX6_append a0 v1 v2 v3 v4 v5 s0) (qI (fun v6 s7 =>
  if 0 ≤ v6 then (
    lt (x2 + 20) (fun v8 =>
    r2 a0 a1 v8 s7))
  else (
    rZ 0 s7))))))))
def fL_feeds_62 (r2 : Nat → Nat → Int32 → AS → Option AR) (r17 : Nat → Nat → Int32 → Nat → Int32 → AS → Option AR) (a0 : Nat) (a1 : Nat) (x2 : Int32) (a3 : Nat) (x4 : Int32) (t0 : Nat) (t1 : Int32) (t2 : Int32) (t3 : Int32) (s0 : AS) : Option AR :=
  uI s0 t0 t1 (t2 ||| t3) (fun s1 =>
  lt (x4 + 1) (fun v2 =>
  r17 a0 a1 x2 a3 v2 s1))
def fL_feeds_17 (r2 : Nat → Nat → Int32 → AS → Option AR) : Nat → Nat → Nat → Int32 → Nat → Int32 → AS → Option AR
  | 0, _, _, _, _, _, _ => none
  | n + 1, a0, a1, x2, a3, x4, s0 =>
    if (20 : Int32) ≤ x4 then (
      fL_feeds_70 r2 a0 a1 x2 a3 s0)
    else (
      if (4 : Int32) = 0 then none else (
      if (4 : Int32) = 0 then none else (
      aI s0 a3 100 (x4 / 4) (fun v1 =>
      cV s0 a1 0 (fJ0_length_8abf5D a1 s0) (qI (fun v2 s3 =>
      if v2 ≤ (x2 + x4) then (
        fL_feeds_62 r2 (fL_feeds_17 r2 n) a0 a1 x2 a3 x4 a3 (x4 / 4) (v1 <<< (8 &&& 31)) 32 s3)
      else (
        cV s3 a1 0 (fJ0_charAt_5068eD a1 (x2 + x4) s3) (qI (fun v4 s5 =>
        fL_feeds_62 r2 (fL_feeds_17 r2 n) a0 a1 x2 a3 x4 a3 (x4 / 4) (v1 <<< (8 &&& 31)) v4 s5)))))))))
def fL_feeds_2  : Nat → Nat → Nat → Int32 → AS → Option AR
  | 0, _, _, _, _ => none
  | n + 1, a0, a1, x2, s0 =>
    cV s0 a1 0 (fJ0_length_8abf5D a1 s0) (qI (fun v1 s2 =>
    if v1 ≤ x2 then (
      rZ 1 s2)
    else (
      nA s2 100 5 (fun q3 s4 =>
      fL_feeds_17 (fL_feeds_2 n) FU a0 a1 x2 q3 0 s4))))
def fL_feeds (a0 : Nat) (a1 : Nat) (s0 : AS) : Option AR :=
  fL_feeds_2 FU a0 a1 0 s0
set_option maxHeartbeats 4000000 in
theorem oL_feeds_70 {Γ : CX} (C : OKC Γ cL_feeds RL (some (.boolean))) (T : ∀ z ∈ (cx_c Γ).exceptionTable.toList, False) (hn : cx_nL Γ = 5) (hR : cx_fr Γ = 5 ∧ cx_lo Γ = 145) (hin : (cx_meth Γ).name = yL_feeds.name) {r2 : Nat → Nat → Int32 → AS → Option AR} (h2 : ∀ (a0 : Nat) (a1 : Nat) (x2 : Int32) (s0 : AS), OK Γ 2 [(0, .ref a0), (1, .ref a1), (2, .int x2)] [] (r2 a0 a1 x2 s0) s0) : ∀ (a0 : Nat) (a1 : Nat) (x2 : Int32) (a3 : Nat) (s0 : AS), OK Γ 70 [(0, .ref a0), (1, .ref a1), (2, .int x2), (3, .ref a3)] [] (fL_feeds_70 r2 a0 a1 x2 a3 s0) s0 := by
  intro a0 a1 x2 a3 s0
  unfold fL_feeds_70
  refine ok_aload_n C 0 dL_feeds_70 rfl ?_
  refine ok_aload_n C 3 dL_feeds_71 rfl ?_
  refine ok_iconst C (v := 0) dL_feeds_72 (by decide) ?_
  refine ok_iald C dL_feeds_73 (fun v1 => ?_)
  refine ok_aload_n C 3 dL_feeds_74 rfl ?_
  refine ok_iconst C (v := 1) dL_feeds_75 (by decide) ?_
  refine ok_iald C dL_feeds_76 (fun v2 => ?_)
  refine ok_aload_n C 3 dL_feeds_77 rfl ?_
  refine ok_iconst C (v := 2) dL_feeds_78 (by decide) ?_
  refine ok_iald C dL_feeds_79 (fun v3 => ?_)
  refine ok_aload_n C 3 dL_feeds_80 rfl ?_
  refine ok_iconst C (v := 3) dL_feeds_81 (by decide) ?_
  refine ok_iald C dL_feeds_82 (fun v4 => ?_)
  refine ok_aload_n C 3 dL_feeds_83 rfl ?_
  refine ok_iconst C (v := 4) dL_feeds_84 (by decide) ?_
  refine ok_iald C dL_feeds_85 (fun v5 => ?_)
  refine ok_callV C T [.int v1, .int v2, .int v3, .int v4, .int v5] (F := fX6_append a0 v1 v2 v3 v4 v5) (ctX6_append (C.2.2.2.2.2.2.2.2.1) a0 v1 v2 v3 v4 v5) vlL_17 viX6_append rfl rfl (by decide) rfl (by rw [hR.1, hR.2]; decide) (Nat.le_of_ble_eq_true rfl) dL_feeds_86 (ok_qI fun v6 s7 => ?_)
  refine ok_if_ge C 94 dL_feeds_89 (by decide) ?_ ?_
  · refine ok_iincL C 2 (c := 20) (fun v8 => [(2, .int v8), (0, .ref a0), (1, .ref a1), (3, .ref a3)]) dL_feeds_94 rfl rfl (by rw [hn]; decide) (fun _ => rfl) (fun v8 => ?_)
    refine ok_goto C 2 dL_feeds_97 (by decide) ?_
    refine OK.sub (lv' := [(0, .ref a0), (1, .ref a1), (2, .int v8)]) [1, 2, 0] rfl ?_
    exact h2 a0 a1 v8 s7
  · refine ok_iconst C (v := 0) dL_feeds_92 (by decide) ?_
    exact ok_zreturn C dL_feeds_93
set_option maxHeartbeats 4000000 in
theorem oL_feeds_62 {Γ : CX} (C : OKC Γ cL_feeds RL (some (.boolean))) (T : ∀ z ∈ (cx_c Γ).exceptionTable.toList, False) (hn : cx_nL Γ = 5) (hR : cx_fr Γ = 5 ∧ cx_lo Γ = 145) (hin : (cx_meth Γ).name = yL_feeds.name) {r2 : Nat → Nat → Int32 → AS → Option AR} {r17 : Nat → Nat → Int32 → Nat → Int32 → AS → Option AR} (h2 : ∀ (a0 : Nat) (a1 : Nat) (x2 : Int32) (s0 : AS), OK Γ 2 [(0, .ref a0), (1, .ref a1), (2, .int x2)] [] (r2 a0 a1 x2 s0) s0) (h17 : ∀ (a0 : Nat) (a1 : Nat) (x2 : Int32) (a3 : Nat) (x4 : Int32) (s0 : AS), OK Γ 17 [(0, .ref a0), (1, .ref a1), (2, .int x2), (3, .ref a3), (4, .int x4)] [] (r17 a0 a1 x2 a3 x4 s0) s0) : ∀ (a0 : Nat) (a1 : Nat) (x2 : Int32) (a3 : Nat) (x4 : Int32) (t0 : Nat) (t1 : Int32) (t2 : Int32) (t3 : Int32) (s0 : AS), OK Γ 62 [(0, .ref a0), (1, .ref a1), (2, .int x2), (3, .ref a3), (4, .int x4)] [.int t3, .int t2, .int t1, .ref t0] (fL_feeds_62 r2 r17 a0 a1 x2 a3 x4 t0 t1 t2 t3 s0) s0 := by
  intro a0 a1 x2 a3 x4 t0 t1 t2 t3 s0
  unfold fL_feeds_62
  refine ok_ior C dL_feeds_62 ?_
  refine ok_iast C dL_feeds_63 (fun s1 _ => ?_)
  refine ok_iincL C 4 (c := 1) (fun v2 => [(4, .int v2), (0, .ref a0), (1, .ref a1), (2, .int x2), (3, .ref a3)]) dL_feeds_64 rfl rfl (by rw [hn]; decide) (fun _ => rfl) (fun v2 => ?_)
  refine ok_goto C 17 dL_feeds_67 (by decide) ?_
  refine OK.sub (lv' := [(0, .ref a0), (1, .ref a1), (2, .int x2), (3, .ref a3), (4, .int v2)]) [1, 2, 3, 4, 0] rfl ?_
  exact h17 a0 a1 x2 a3 v2 s1
set_option maxHeartbeats 4000000 in
theorem oL_feeds_17 {Γ : CX} (C : OKC Γ cL_feeds RL (some (.boolean))) (T : ∀ z ∈ (cx_c Γ).exceptionTable.toList, False) (hn : cx_nL Γ = 5) (hR : cx_fr Γ = 5 ∧ cx_lo Γ = 145) (hin : (cx_meth Γ).name = yL_feeds.name) {r2 : Nat → Nat → Int32 → AS → Option AR} (h2 : ∀ (a0 : Nat) (a1 : Nat) (x2 : Int32) (s0 : AS), OK Γ 2 [(0, .ref a0), (1, .ref a1), (2, .int x2)] [] (r2 a0 a1 x2 s0) s0) : ∀ (n : Nat) (a0 : Nat) (a1 : Nat) (x2 : Int32) (a3 : Nat) (x4 : Int32) (s0 : AS), OK Γ 17 [(0, .ref a0), (1, .ref a1), (2, .int x2), (3, .ref a3), (4, .int x4)] [] (fL_feeds_17 r2 n a0 a1 x2 a3 x4 s0) s0 := by
  intro n
  induction n with
  | zero => intro _ _ _ _ _ s0; exact OK.none
  | succ n ih =>
    intro a0 a1 x2 a3 x4 s0
    rw [fL_feeds_17]
    refine ok_iload C 4 dL_feeds_17 rfl ?_
    refine ok_bipush C (v := 20) dL_feeds_19 (by decide) ?_
    refine ok_icmp_ge C 70 dL_feeds_21 (by decide) ?_ ?_
    · refine OK.sub (lv' := [(0, .ref a0), (1, .ref a1), (2, .int x2), (3, .ref a3)]) [0, 1, 2, 3] rfl ?_
      exact oL_feeds_70 C T hn hR hin h2 a0 a1 x2 a3 s0
    · refine ok_aload_n C 3 dL_feeds_24 rfl ?_
      refine ok_iload C 4 dL_feeds_25 rfl ?_
      refine ok_iconst C (v := 4) dL_feeds_27 (by decide) ?_
      refine ok_idiv C dL_feeds_28 ?_
      refine ok_aload_n C 3 dL_feeds_29 rfl ?_
      refine ok_iload C 4 dL_feeds_30 rfl ?_
      refine ok_iconst C (v := 4) dL_feeds_32 (by decide) ?_
      refine ok_idiv C dL_feeds_33 ?_
      refine ok_iald C dL_feeds_34 (fun v1 => ?_)
      refine ok_bipush C (v := 8) dL_feeds_35 (by decide) ?_
      refine ok_ishl C dL_feeds_37 ?_
      refine ok_iload_n C 2 dL_feeds_38 rfl ?_
      refine ok_iload C 4 dL_feeds_39 rfl ?_
      refine ok_iadd C dL_feeds_41 ?_
      refine ok_aload_n C 1 dL_feeds_42 rfl ?_
      refine ok_callV C T [] (F := fJ0_length_8abf5D a1) (ctJ0_length_8abf5D (C.2.2.2.2.2.2.2.2.1) a1) vlL_7 viJ0_length_8abf5 rfl rfl (by decide) rfl (by rw [hR.1, hR.2]; decide) (Nat.le_of_ble_eq_true rfl) dL_feeds_43 (ok_qI fun v2 s3 => ?_)
      refine ok_icmp_ge C 60 dL_feeds_46 (by decide) ?_ ?_
      · refine ok_bipush C (v := 32) dL_feeds_60 (by decide) ?_
        exact oL_feeds_62 C T hn hR hin h2 ih a0 a1 x2 a3 x4 a3 (x4 / 4) (v1 <<< (8 &&& 31)) 32 s3
      · refine ok_aload_n C 1 dL_feeds_49 rfl ?_
        refine ok_iload_n C 2 dL_feeds_50 rfl ?_
        refine ok_iload C 4 dL_feeds_51 rfl ?_
        refine ok_iadd C dL_feeds_53 ?_
        refine ok_callV C T [.int (x2 + x4)] (F := fJ0_charAt_5068eD a1 (x2 + x4)) (ctJ0_charAt_5068eD (C.2.2.2.2.2.2.2.2.1) a1 (x2 + x4)) vlL_13 viJ0_charAt_5068e rfl rfl (by decide) rfl (by rw [hR.1, hR.2]; decide) (Nat.le_of_ble_eq_true rfl) dL_feeds_54 (ok_qI fun v4 s5 => ?_)
        refine ok_goto C 62 dL_feeds_57 (by decide) ?_
        exact oL_feeds_62 C T hn hR hin h2 ih a0 a1 x2 a3 x4 a3 (x4 / 4) (v1 <<< (8 &&& 31)) v4 s5
set_option maxHeartbeats 4000000 in
theorem oL_feeds_2 {Γ : CX} (C : OKC Γ cL_feeds RL (some (.boolean))) (T : ∀ z ∈ (cx_c Γ).exceptionTable.toList, False) (hn : cx_nL Γ = 5) (hR : cx_fr Γ = 5 ∧ cx_lo Γ = 145) (hin : (cx_meth Γ).name = yL_feeds.name) : ∀ (n : Nat) (a0 : Nat) (a1 : Nat) (x2 : Int32) (s0 : AS), OK Γ 2 [(0, .ref a0), (1, .ref a1), (2, .int x2)] [] (fL_feeds_2 n a0 a1 x2 s0) s0 := by
  intro n
  induction n with
  | zero => intro _ _ _ s0; exact OK.none
  | succ n ih =>
    intro a0 a1 x2 s0
    rw [fL_feeds_2]
    refine ok_iload_n C 2 dL_feeds_2 rfl ?_
    refine ok_aload_n C 1 dL_feeds_3 rfl ?_
    refine ok_callV C T [] (F := fJ0_length_8abf5D a1) (ctJ0_length_8abf5D (C.2.2.2.2.2.2.2.2.1) a1) vlL_7 viJ0_length_8abf5 rfl rfl (by decide) rfl (by rw [hR.1, hR.2]; decide) (Nat.le_of_ble_eq_true rfl) dL_feeds_4 (ok_qI fun v1 s2 => ?_)
    refine ok_icmp_ge C 100 dL_feeds_7 (by decide) ?_ ?_
    · refine ok_iconst C (v := 1) dL_feeds_100 (by decide) ?_
      exact ok_zreturn C dL_feeds_101
    · refine ok_iconst C (v := 5) dL_feeds_10 (by decide) ?_
      refine ok_newI C kw_136 dL_feeds_11 (fun q3 s4 => ?_)
      refine ok_astore_n C (i := 3) [(3, .ref q3), (0, .ref a0), (1, .ref a1), (2, .int x2)] dL_feeds_13 rfl (by rw [hn]; decide) rfl ?_
      refine ok_iconst C (v := 0) dL_feeds_14 (by decide) ?_
      refine ok_istore C (i := 4) [(4, .int 0), (3, .ref q3), (0, .ref a0), (1, .ref a1), (2, .int x2)] dL_feeds_15 (by rw [hn]; decide) rfl ?_
      refine OK.sub (lv' := [(0, .ref a0), (1, .ref a1), (2, .int x2), (3, .ref q3), (4, .int 0)]) [2, 3, 4, 1, 0] rfl ?_
      exact oL_feeds_17 C T hn hR hin ih FU a0 a1 x2 q3 0 s4
set_option maxHeartbeats 4000000 in
theorem oL_feeds {Γ : CX} (C : OKC Γ cL_feeds RL (some (.boolean))) (T : ∀ z ∈ (cx_c Γ).exceptionTable.toList, False) (hn : cx_nL Γ = 5) (hR : cx_fr Γ = 5 ∧ cx_lo Γ = 145) (hin : (cx_meth Γ).name = yL_feeds.name) : ∀ (a0 : Nat) (a1 : Nat) (s0 : AS), OK Γ 0 [(0, .ref a0), (1, .ref a1)] [] (fL_feeds a0 a1 s0) s0 := by
  intro a0 a1 s0
  unfold fL_feeds
  refine ok_iconst C (v := 0) dL_feeds_0 (by decide) ?_
  refine ok_istore_n C (i := 2) [(2, .int 0), (0, .ref a0), (1, .ref a1)] dL_feeds_1 rfl (by rw [hn]; decide) rfl ?_
  refine OK.sub (lv' := [(0, .ref a0), (1, .ref a1), (2, .int 0)]) [1, 2, 0] rfl ?_
  exact oL_feeds_2 C T hn hR hin FU a0 a1 0 s0
theorem ctL_feeds {l : Launch} (hl : l.stackTraces = false) {D : va_G} {dA : Nat → ClassId} {B0 : Nat} (a0 : Nat) (a1 : Nat) : Ct l D dA B0 yL_feeds (.code yL_feeds cL_feeds 5 (some (.boolean)) :: ax_ALL) 5 145 [.ref a0, .ref a1] (fL_feeds a0 a1) :=
  Ct.of hl (by decide +kernel) (Nat.le_of_ble_eq_true rfl) fun Γ C _ _ _ _ e5 e6 e7 T hin => oL_feeds C T e5 ⟨e6, e7⟩ hin a0 a1 _
/-! ChaseLockerLaw.tell(LChaseLocker;Ljava/lang/String;)I -/
def fL_tell (a0 : Nat) (a1 : Nat) (s0 : AS) : Option AR :=
  cS s0 (fL_feeds a0 a1 s0) (qI (fun v1 s2 =>
  if v1 = 0 then (
    some (.inl (some (.int ((-9)))), s2))
  else (
    cV s2 a1 0 (fJ0_length_8abf5D a1 s2) (qI (fun v3 s4 =>
    cV s4 a0 10 (fX6_load a0 v3 s4) (qI (fun v5 s6 =>
    some (.inl (some (.int v5)), s6))))))))
set_option maxHeartbeats 4000000 in
theorem oL_tell {Γ : CX} (C : OKC Γ cL_tell RL (some (.int))) (T : ∀ z ∈ (cx_c Γ).exceptionTable.toList, False) (hn : cx_nL Γ = 2) (hR : cx_fr Γ = 10 ∧ cx_lo Γ = 255) (hin : (cx_meth Γ).name = yL_tell.name) : ∀ (a0 : Nat) (a1 : Nat) (s0 : AS), OK Γ 0 [(0, .ref a0), (1, .ref a1)] [] (fL_tell a0 a1 s0) s0 := by
  intro a0 a1 s0
  unfold fL_tell
  refine ok_aload_n C 0 dL_tell_0 rfl ?_
  refine ok_aload_n C 1 dL_tell_1 rfl ?_
  refine ok_callS C T [.ref a0, .ref a1] (F := fL_feeds a0 a1) (ctL_feeds (C.2.2.2.2.2.2.2.2.1) a0 a1) vlL_23 kw_886 rfl (by rw [hR.1, hR.2]; decide) (Nat.le_of_ble_eq_true rfl) dL_tell_2 (ok_qI fun v1 s2 => ?_)
  refine ok_if_eq C 19 dL_tell_5 (by decide) ?_ ?_
  · refine ok_bipush C (v := (-9)) dL_tell_19 (by decide) ?_
    exact ok_ireturn C dL_tell_21
  · refine ok_aload_n C 0 dL_tell_8 rfl ?_
    refine ok_aload_n C 1 dL_tell_9 rfl ?_
    refine ok_callV C T [] (F := fJ0_length_8abf5D a1) (ctJ0_length_8abf5D (C.2.2.2.2.2.2.2.2.1) a1) vlL_7 viJ0_length_8abf5 rfl rfl (by decide) rfl (by rw [hR.1, hR.2]; decide) (Nat.le_of_ble_eq_true rfl) dL_tell_10 (ok_qI fun v3 s4 => ?_)
    refine ok_callV C T [.int v3] (F := fX6_load a0 v3) (ctX6_load (C.2.2.2.2.2.2.2.2.1) a0 v3) vlL_29 viX6_load rfl rfl (by decide) rfl (by rw [hR.1, hR.2]; decide) (Nat.le_of_ble_eq_true rfl) dL_tell_13 (ok_qI fun v5 s6 => ?_)
    refine ok_goto C 21 dL_tell_16 (by decide) ?_
    exact ok_ireturn C dL_tell_21
theorem ctL_tell {l : Launch} (hl : l.stackTraces = false) {D : va_G} {dA : Nat → ClassId} {B0 : Nat} (a0 : Nat) (a1 : Nat) : Ct l D dA B0 yL_tell (.code yL_tell cL_tell 2 (some (.int)) :: ax_ALL) 10 255 [.ref a0, .ref a1] (fL_tell a0 a1) :=
  Ct.of hl (by decide +kernel) (Nat.le_of_ble_eq_true rfl) fun Γ C _ _ _ _ e5 e6 e7 T hin => oL_tell C T e5 ⟨e6, e7⟩ hin a0 a1 _
/-! ChaseLockerLaw.calls(LChaseLocker;I[I)J -/
def fL_calls_314  (t0 : Nat) (t1 : Int32) (t2 : Int32) (s0 : AS) : Option AR :=
  cV s0 t0 10 (fX6_quoin t0 t1 t2 s0) (qI (fun v1 s2 =>
  some (.inl (some (.long (v1.toInt64))), s2)))
def fL_calls (a0 : Nat) (x1 : Int32) (a2 : Nat) (s0 : AS) : Option AR :=
  if x1 = 0 then (
    aI s0 a2 100 0 (fun v1 =>
    cV s0 a0 10 (fX6_count a0 v1 s0) (qI (fun v2 s3 =>
    some (.inl (some (.long (v2.toInt64))), s3)))))
  else (
  if x1 = 1 then (
    aI s0 a2 100 0 (fun v4 =>
    cV s0 a0 10 (fX6_setting a0 v4 s0) (qI (fun v5 s6 =>
    some (.inl (some (.long (v5.toInt64))), s6)))))
  else (
  if x1 = 2 then (
    aI s0 a2 100 0 (fun v7 =>
    aI s0 a2 100 1 (fun v8 =>
    cV s0 a0 10 (fX6_row a0 v7 v8 s0) (qI (fun v9 s10 =>
    some (.inl (some (.long (v9.toInt64))), s10))))))
  else (
  if x1 = 3 then (
    aI s0 a2 100 0 (fun v11 =>
    aI s0 a2 100 1 (fun v12 =>
    cV s0 a0 10 (fX6_block a0 v11 v12 s0) (qI (fun v13 s14 =>
    some (.inl (some (.long (v13.toInt64))), s14))))))
  else (
  if x1 = 4 then (
    aI s0 a2 100 0 (fun v15 =>
    aI s0 a2 100 1 (fun v16 =>
    cV s0 a0 10 (fX6_piece a0 v15 v16 s0) (qI (fun v17 s18 =>
    some (.inl (some (.long (v17.toInt64))), s18))))))
  else (
  if x1 = 5 then (
    aI s0 a2 100 0 (fun v19 =>
    aI s0 a2 100 1 (fun v20 =>
    cV s0 a0 10 (fX6_kind a0 v19 v20 s0) (qI (fun v21 s22 =>
    some (.inl (some (.long (v21.toInt64))), s22))))))
  else (
  if x1 = 6 then (
    aI s0 a2 100 0 (fun v23 =>
    aI s0 a2 100 1 (fun v24 =>
    cV s0 a0 10 (fX6_choice a0 v23 v24 s0) (qI (fun v25 s26 =>
    some (.inl (some (.long (v25.toInt64))), s26))))))
  else (
  if x1 = 7 then (
    aI s0 a2 100 0 (fun v27 =>
    aI s0 a2 100 1 (fun v28 =>
    cV s0 a0 10 (fX6_fewestAt a0 v27 v28 s0) (qI (fun v29 s30 =>
    some (.inl (some (.long (v29.toInt64))), s30))))))
  else (
  if x1 = 8 then (
    aI s0 a2 100 0 (fun v31 =>
    cV s0 a0 10 (fX6_rowFor a0 v31 s0) (qI (fun v32 s33 =>
    some (.inl (some (.long (v32.toInt64))), s33)))))
  else (
  if x1 = 9 then (
    aI s0 a2 100 0 (fun v34 =>
    cV s0 a0 10 (fX6_goodIn a0 v34 s0) (qI (fun v35 s36 =>
    some (.inl (some (.long (v35.toInt64))), s36)))))
  else (
  if x1 = 10 then (
    aI s0 a2 100 0 (fun v37 =>
    cV s0 a0 10 (fX6_fillable a0 v37 s0) (qI (fun v38 s39 =>
    some (.inl (some (.long (v38.toInt64))), s39)))))
  else (
  if x1 = 11 then (
    aI s0 a2 100 0 (fun v40 =>
    cV s0 a0 10 (fX6_textByte a0 v40 s0) (qI (fun v41 s42 =>
    some (.inl (some (.long (v41.toInt64))), s42)))))
  else (
  if x1 = 12 then (
    aI s0 a2 100 0 (fun v43 =>
    aI s0 a2 100 1 (fun v44 =>
    cV s0 a0 10 (fX6_place a0 v43 v44 s0) (qI (fun v45 s46 =>
    some (.inl (some (.long (v45.toInt64))), s46))))))
  else (
  if x1 = 13 then (
    aI s0 a2 100 0 (fun v47 =>
    aI s0 a2 100 1 (fun v48 =>
    cV s0 a0 10 (fX6_lift a0 v47 v48 s0) (qI (fun v49 s50 =>
    some (.inl (some (.long (v49.toInt64))), s50))))))
  else (
  if x1 = 14 then (
    aI s0 a2 100 0 (fun v51 =>
    aI s0 a2 100 1 (fun v52 =>
    cV s0 a0 10 (fX6_put a0 v51 v52 s0) (qI (fun v53 s54 =>
    some (.inl (some (.long (v53.toInt64))), s54))))))
  else (
  if x1 = 15 then (
    aI s0 a2 100 0 (fun v55 =>
    aI s0 a2 100 1 (fun v56 =>
    cV s0 a0 10 (fX6_take a0 v55 v56 s0) (qI (fun v57 s58 =>
    some (.inl (some (.long (v57.toInt64))), s58))))))
  else (
  if x1 = 16 then (
    aI s0 a2 100 0 (fun v59 =>
    aI s0 a2 100 1 (fun v60 =>
    if v60 = (1 : Int32) then (
      fL_calls_314 a0 v59 1 s0)
    else (
      fL_calls_314 a0 v59 0 s0))))
  else (
  if x1 = 17 then (
    aI s0 a2 100 0 (fun v61 =>
    aI s0 a2 100 1 (fun v62 =>
    cV s0 a0 10 (fX6_open a0 v61 v62 s0) (qI (fun v63 s64 =>
    some (.inl (some (.long (v63.toInt64))), s64))))))
  else (
  if x1 = 18 then (
    aI s0 a2 100 0 (fun v65 =>
    cV s0 a0 10 (fX6_lock a0 v65 s0) (qI (fun v66 s67 =>
    some (.inl (some (.long (v66.toInt64))), s67)))))
  else (
  if x1 = 19 then (
    aI s0 a2 100 0 (fun v68 =>
    cV s0 a0 10 (fX6_relock a0 v68 s0) (qI (fun v69 s70 =>
    some (.inl (some (.long (v69.toInt64))), s70)))))
  else (
  if x1 = 20 then (
    aI s0 a2 100 0 (fun v71 =>
    cV s0 a0 10 (fX6_tighten a0 v71 s0) (qI (fun v72 s73 =>
    some (.inl (some (.long (v72.toInt64))), s73)))))
  else (
  if x1 = 21 then (
    aI s0 a2 100 0 (fun v74 =>
    cV s0 a0 10 (fX6_print a0 v74 s0) (qI (fun v75 s76 =>
    some (.inl (some (.long (v75.toInt64))), s76)))))
  else (
  if x1 = 22 then (
    aI s0 a2 100 0 (fun v77 =>
    cV s0 a0 10 (fX6_rest a0 v77 s0) (qI (fun v78 s79 =>
    some (.inl (some (.long (v78.toInt64))), s79)))))
  else (
  if x1 = 23 then (
    aI s0 a2 100 0 (fun v80 =>
    aI s0 a2 100 1 (fun v81 =>
    cV s0 a0 10 (fX6_buy a0 v80 v81 s0) (qI (fun v82 s83 =>
    some (.inl (some (.long (v82.toInt64))), s83))))))
  else (
  if x1 = 24 then (
    cV s0 a0 10 (fX6_undo a0 s0) (qI (fun v84 s85 =>
    some (.inl (some (.long (v84.toInt64))), s85))))
  else (
  if x1 = 25 then (
    aI s0 a2 100 0 (fun v86 =>
    cV s0 a0 10 (fX6_save a0 v86 s0) (qI (fun v87 s88 =>
    some (.inl (some (.long (v87.toInt64))), s88)))))
  else (
  if x1 = 26 then (
    aI s0 a2 100 0 (fun v89 =>
    cV s0 a0 10 (fX6_restore a0 v89 s0) (qI (fun v90 s91 =>
    some (.inl (some (.long (v90.toInt64))), s91)))))
  else (
  aI s0 a2 100 0 (fun v92 =>
  cV s0 a0 10 (fX6_load a0 v92 s0) (qI (fun v93 s94 =>
  some (.inl (some (.long (v93.toInt64))), s94)))))))))))))))))))))))))))))))
set_option maxHeartbeats 4000000 in
theorem oL_calls_314 {Γ : CX} (C : OKC Γ cL_calls RL (some (.long))) (T : ∀ z ∈ (cx_c Γ).exceptionTable.toList, False) (hn : cx_nL Γ = 3) (hR : cx_fr Γ = 10 ∧ cx_lo Γ = 255) (hin : (cx_meth Γ).name = yL_calls.name) : ∀ (t0 : Nat) (t1 : Int32) (t2 : Int32) (s0 : AS), OK Γ 314 [] [.int t2, .int t1, .ref t0] (fL_calls_314  t0 t1 t2 s0) s0 := by
  intro t0 t1 t2 s0
  unfold fL_calls_314
  refine ok_callV C T [.int t1, .int t2] (F := fX6_quoin t0 t1 t2) (ctX6_quoin (C.2.2.2.2.2.2.2.2.1) t0 t1 t2) vlL_82 viX6_quoin rfl rfl (by decide) rfl (by rw [hR.1, hR.2]; decide) (Nat.le_of_ble_eq_true rfl) dL_calls_314 (ok_qI fun v1 s2 => ?_)
  refine ok_i2l C dL_calls_317 ?_
  exact ok_lreturn C dL_calls_318
set_option maxHeartbeats 4000000 in
theorem oL_calls {Γ : CX} (C : OKC Γ cL_calls RL (some (.long))) (T : ∀ z ∈ (cx_c Γ).exceptionTable.toList, False) (hn : cx_nL Γ = 3) (hR : cx_fr Γ = 10 ∧ cx_lo Γ = 255) (hin : (cx_meth Γ).name = yL_calls.name) : ∀ (a0 : Nat) (x1 : Int32) (a2 : Nat) (s0 : AS), OK Γ 0 [(0, .ref a0), (1, .int x1), (2, .ref a2)] [] (fL_calls a0 x1 a2 s0) s0 := by
  intro a0 x1 a2 s0
  unfold fL_calls
  refine ok_iload_n C 1 dL_calls_0 rfl ?_
  refine ok_tsw C 0 124 dL_calls_1 ⟨by decide, by decide⟩ rfl (by decide) ?_ (fun hc0 => ?_)
  · refine ok_aload_n C 0 dL_calls_124 rfl ?_
    refine ok_aload_n C 2 dL_calls_125 rfl ?_
    refine ok_iconst C (v := 0) dL_calls_126 (by decide) ?_
    refine ok_iald C dL_calls_127 (fun v1 => ?_)
    refine ok_callV C T [.int v1] (F := fX6_count a0 v1) (ctX6_count (C.2.2.2.2.2.2.2.2.1) a0 v1) vlL_33 viX6_count rfl rfl (by decide) rfl (by rw [hR.1, hR.2]; decide) (Nat.le_of_ble_eq_true rfl) dL_calls_128 (ok_qI fun v2 s3 => ?_)
    refine ok_i2l C dL_calls_131 ?_
    exact ok_lreturn C dL_calls_132
  refine ok_tsw C 1 133 dL_calls_1 ⟨by decide, by decide⟩ rfl (by decide) ?_ (fun hc1 => ?_)
  · refine ok_aload_n C 0 dL_calls_133 rfl ?_
    refine ok_aload_n C 2 dL_calls_134 rfl ?_
    refine ok_iconst C (v := 0) dL_calls_135 (by decide) ?_
    refine ok_iald C dL_calls_136 (fun v4 => ?_)
    refine ok_callV C T [.int v4] (F := fX6_setting a0 v4) (ctX6_setting (C.2.2.2.2.2.2.2.2.1) a0 v4) vlL_36 viX6_setting rfl rfl (by decide) rfl (by rw [hR.1, hR.2]; decide) (Nat.le_of_ble_eq_true rfl) dL_calls_137 (ok_qI fun v5 s6 => ?_)
    refine ok_i2l C dL_calls_140 ?_
    exact ok_lreturn C dL_calls_141
  refine ok_tsw C 2 142 dL_calls_1 ⟨by decide, by decide⟩ rfl (by decide) ?_ (fun hc2 => ?_)
  · refine ok_aload_n C 0 dL_calls_142 rfl ?_
    refine ok_aload_n C 2 dL_calls_143 rfl ?_
    refine ok_iconst C (v := 0) dL_calls_144 (by decide) ?_
    refine ok_iald C dL_calls_145 (fun v7 => ?_)
    refine ok_aload_n C 2 dL_calls_146 rfl ?_
    refine ok_iconst C (v := 1) dL_calls_147 (by decide) ?_
    refine ok_iald C dL_calls_148 (fun v8 => ?_)
    refine ok_callV C T [.int v7, .int v8] (F := fX6_row a0 v7 v8) (ctX6_row (C.2.2.2.2.2.2.2.2.1) a0 v7 v8) vlL_39 viX6_row rfl rfl (by decide) rfl (by rw [hR.1, hR.2]; decide) (Nat.le_of_ble_eq_true rfl) dL_calls_149 (ok_qI fun v9 s10 => ?_)
    refine ok_i2l C dL_calls_152 ?_
    exact ok_lreturn C dL_calls_153
  refine ok_tsw C 3 154 dL_calls_1 ⟨by decide, by decide⟩ rfl (by decide) ?_ (fun hc3 => ?_)
  · refine ok_aload_n C 0 dL_calls_154 rfl ?_
    refine ok_aload_n C 2 dL_calls_155 rfl ?_
    refine ok_iconst C (v := 0) dL_calls_156 (by decide) ?_
    refine ok_iald C dL_calls_157 (fun v11 => ?_)
    refine ok_aload_n C 2 dL_calls_158 rfl ?_
    refine ok_iconst C (v := 1) dL_calls_159 (by decide) ?_
    refine ok_iald C dL_calls_160 (fun v12 => ?_)
    refine ok_callV C T [.int v11, .int v12] (F := fX6_block a0 v11 v12) (ctX6_block (C.2.2.2.2.2.2.2.2.1) a0 v11 v12) vlL_43 viX6_block rfl rfl (by decide) rfl (by rw [hR.1, hR.2]; decide) (Nat.le_of_ble_eq_true rfl) dL_calls_161 (ok_qI fun v13 s14 => ?_)
    refine ok_i2l C dL_calls_164 ?_
    exact ok_lreturn C dL_calls_165
  refine ok_tsw C 4 166 dL_calls_1 ⟨by decide, by decide⟩ rfl (by decide) ?_ (fun hc4 => ?_)
  · refine ok_aload_n C 0 dL_calls_166 rfl ?_
    refine ok_aload_n C 2 dL_calls_167 rfl ?_
    refine ok_iconst C (v := 0) dL_calls_168 (by decide) ?_
    refine ok_iald C dL_calls_169 (fun v15 => ?_)
    refine ok_aload_n C 2 dL_calls_170 rfl ?_
    refine ok_iconst C (v := 1) dL_calls_171 (by decide) ?_
    refine ok_iald C dL_calls_172 (fun v16 => ?_)
    refine ok_callV C T [.int v15, .int v16] (F := fX6_piece a0 v15 v16) (ctX6_piece (C.2.2.2.2.2.2.2.2.1) a0 v15 v16) vlL_46 viX6_piece rfl rfl (by decide) rfl (by rw [hR.1, hR.2]; decide) (Nat.le_of_ble_eq_true rfl) dL_calls_173 (ok_qI fun v17 s18 => ?_)
    refine ok_i2l C dL_calls_176 ?_
    exact ok_lreturn C dL_calls_177
  refine ok_tsw C 5 178 dL_calls_1 ⟨by decide, by decide⟩ rfl (by decide) ?_ (fun hc5 => ?_)
  · refine ok_aload_n C 0 dL_calls_178 rfl ?_
    refine ok_aload_n C 2 dL_calls_179 rfl ?_
    refine ok_iconst C (v := 0) dL_calls_180 (by decide) ?_
    refine ok_iald C dL_calls_181 (fun v19 => ?_)
    refine ok_aload_n C 2 dL_calls_182 rfl ?_
    refine ok_iconst C (v := 1) dL_calls_183 (by decide) ?_
    refine ok_iald C dL_calls_184 (fun v20 => ?_)
    refine ok_callV C T [.int v19, .int v20] (F := fX6_kind a0 v19 v20) (ctX6_kind (C.2.2.2.2.2.2.2.2.1) a0 v19 v20) vlL_49 viX6_kind rfl rfl (by decide) rfl (by rw [hR.1, hR.2]; decide) (Nat.le_of_ble_eq_true rfl) dL_calls_185 (ok_qI fun v21 s22 => ?_)
    refine ok_i2l C dL_calls_188 ?_
    exact ok_lreturn C dL_calls_189
  refine ok_tsw C 6 190 dL_calls_1 ⟨by decide, by decide⟩ rfl (by decide) ?_ (fun hc6 => ?_)
  · refine ok_aload_n C 0 dL_calls_190 rfl ?_
    refine ok_aload_n C 2 dL_calls_191 rfl ?_
    refine ok_iconst C (v := 0) dL_calls_192 (by decide) ?_
    refine ok_iald C dL_calls_193 (fun v23 => ?_)
    refine ok_aload_n C 2 dL_calls_194 rfl ?_
    refine ok_iconst C (v := 1) dL_calls_195 (by decide) ?_
    refine ok_iald C dL_calls_196 (fun v24 => ?_)
    refine ok_callV C T [.int v23, .int v24] (F := fX6_choice a0 v23 v24) (ctX6_choice (C.2.2.2.2.2.2.2.2.1) a0 v23 v24) vlL_52 viX6_choice rfl rfl (by decide) rfl (by rw [hR.1, hR.2]; decide) (Nat.le_of_ble_eq_true rfl) dL_calls_197 (ok_qI fun v25 s26 => ?_)
    refine ok_i2l C dL_calls_200 ?_
    exact ok_lreturn C dL_calls_201
  refine ok_tsw C 7 202 dL_calls_1 ⟨by decide, by decide⟩ rfl (by decide) ?_ (fun hc7 => ?_)
  · refine ok_aload_n C 0 dL_calls_202 rfl ?_
    refine ok_aload_n C 2 dL_calls_203 rfl ?_
    refine ok_iconst C (v := 0) dL_calls_204 (by decide) ?_
    refine ok_iald C dL_calls_205 (fun v27 => ?_)
    refine ok_aload_n C 2 dL_calls_206 rfl ?_
    refine ok_iconst C (v := 1) dL_calls_207 (by decide) ?_
    refine ok_iald C dL_calls_208 (fun v28 => ?_)
    refine ok_callV C T [.int v27, .int v28] (F := fX6_fewestAt a0 v27 v28) (ctX6_fewestAt (C.2.2.2.2.2.2.2.2.1) a0 v27 v28) vlL_55 viX6_fewestAt rfl rfl (by decide) rfl (by rw [hR.1, hR.2]; decide) (Nat.le_of_ble_eq_true rfl) dL_calls_209 (ok_qI fun v29 s30 => ?_)
    refine ok_i2l C dL_calls_212 ?_
    exact ok_lreturn C dL_calls_213
  refine ok_tsw C 8 214 dL_calls_1 ⟨by decide, by decide⟩ rfl (by decide) ?_ (fun hc8 => ?_)
  · refine ok_aload_n C 0 dL_calls_214 rfl ?_
    refine ok_aload_n C 2 dL_calls_215 rfl ?_
    refine ok_iconst C (v := 0) dL_calls_216 (by decide) ?_
    refine ok_iald C dL_calls_217 (fun v31 => ?_)
    refine ok_callV C T [.int v31] (F := fX6_rowFor a0 v31) (ctX6_rowFor (C.2.2.2.2.2.2.2.2.1) a0 v31) vlL_58 viX6_rowFor rfl rfl (by decide) rfl (by rw [hR.1, hR.2]; decide) (Nat.le_of_ble_eq_true rfl) dL_calls_218 (ok_qI fun v32 s33 => ?_)
    refine ok_i2l C dL_calls_221 ?_
    exact ok_lreturn C dL_calls_222
  refine ok_tsw C 9 223 dL_calls_1 ⟨by decide, by decide⟩ rfl (by decide) ?_ (fun hc9 => ?_)
  · refine ok_aload_n C 0 dL_calls_223 rfl ?_
    refine ok_aload_n C 2 dL_calls_224 rfl ?_
    refine ok_iconst C (v := 0) dL_calls_225 (by decide) ?_
    refine ok_iald C dL_calls_226 (fun v34 => ?_)
    refine ok_callV C T [.int v34] (F := fX6_goodIn a0 v34) (ctX6_goodIn (C.2.2.2.2.2.2.2.2.1) a0 v34) vlL_61 viX6_goodIn rfl rfl (by decide) rfl (by rw [hR.1, hR.2]; decide) (Nat.le_of_ble_eq_true rfl) dL_calls_227 (ok_qI fun v35 s36 => ?_)
    refine ok_i2l C dL_calls_230 ?_
    exact ok_lreturn C dL_calls_231
  refine ok_tsw C 10 232 dL_calls_1 ⟨by decide, by decide⟩ rfl (by decide) ?_ (fun hc10 => ?_)
  · refine ok_aload_n C 0 dL_calls_232 rfl ?_
    refine ok_aload_n C 2 dL_calls_233 rfl ?_
    refine ok_iconst C (v := 0) dL_calls_234 (by decide) ?_
    refine ok_iald C dL_calls_235 (fun v37 => ?_)
    refine ok_callV C T [.int v37] (F := fX6_fillable a0 v37) (ctX6_fillable (C.2.2.2.2.2.2.2.2.1) a0 v37) vlL_64 viX6_fillable rfl rfl (by decide) rfl (by rw [hR.1, hR.2]; decide) (Nat.le_of_ble_eq_true rfl) dL_calls_236 (ok_qI fun v38 s39 => ?_)
    refine ok_i2l C dL_calls_239 ?_
    exact ok_lreturn C dL_calls_240
  refine ok_tsw C 11 241 dL_calls_1 ⟨by decide, by decide⟩ rfl (by decide) ?_ (fun hc11 => ?_)
  · refine ok_aload_n C 0 dL_calls_241 rfl ?_
    refine ok_aload_n C 2 dL_calls_242 rfl ?_
    refine ok_iconst C (v := 0) dL_calls_243 (by decide) ?_
    refine ok_iald C dL_calls_244 (fun v40 => ?_)
    refine ok_callV C T [.int v40] (F := fX6_textByte a0 v40) (ctX6_textByte (C.2.2.2.2.2.2.2.2.1) a0 v40) vlL_67 viX6_textByte rfl rfl (by decide) rfl (by rw [hR.1, hR.2]; decide) (Nat.le_of_ble_eq_true rfl) dL_calls_245 (ok_qI fun v41 s42 => ?_)
    refine ok_i2l C dL_calls_248 ?_
    exact ok_lreturn C dL_calls_249
  refine ok_tsw C 12 250 dL_calls_1 ⟨by decide, by decide⟩ rfl (by decide) ?_ (fun hc12 => ?_)
  · refine ok_aload_n C 0 dL_calls_250 rfl ?_
    refine ok_aload_n C 2 dL_calls_251 rfl ?_
    refine ok_iconst C (v := 0) dL_calls_252 (by decide) ?_
    refine ok_iald C dL_calls_253 (fun v43 => ?_)
    refine ok_aload_n C 2 dL_calls_254 rfl ?_
    refine ok_iconst C (v := 1) dL_calls_255 (by decide) ?_
    refine ok_iald C dL_calls_256 (fun v44 => ?_)
    refine ok_callV C T [.int v43, .int v44] (F := fX6_place a0 v43 v44) (ctX6_place (C.2.2.2.2.2.2.2.2.1) a0 v43 v44) vlL_70 viX6_place rfl rfl (by decide) rfl (by rw [hR.1, hR.2]; decide) (Nat.le_of_ble_eq_true rfl) dL_calls_257 (ok_qI fun v45 s46 => ?_)
    refine ok_i2l C dL_calls_260 ?_
    exact ok_lreturn C dL_calls_261
  refine ok_tsw C 13 262 dL_calls_1 ⟨by decide, by decide⟩ rfl (by decide) ?_ (fun hc13 => ?_)
  · refine ok_aload_n C 0 dL_calls_262 rfl ?_
    refine ok_aload_n C 2 dL_calls_263 rfl ?_
    refine ok_iconst C (v := 0) dL_calls_264 (by decide) ?_
    refine ok_iald C dL_calls_265 (fun v47 => ?_)
    refine ok_aload_n C 2 dL_calls_266 rfl ?_
    refine ok_iconst C (v := 1) dL_calls_267 (by decide) ?_
    refine ok_iald C dL_calls_268 (fun v48 => ?_)
    refine ok_callV C T [.int v47, .int v48] (F := fX6_lift a0 v47 v48) (ctX6_lift (C.2.2.2.2.2.2.2.2.1) a0 v47 v48) vlL_73 viX6_lift rfl rfl (by decide) rfl (by rw [hR.1, hR.2]; decide) (Nat.le_of_ble_eq_true rfl) dL_calls_269 (ok_qI fun v49 s50 => ?_)
    refine ok_i2l C dL_calls_272 ?_
    exact ok_lreturn C dL_calls_273
  refine ok_tsw C 14 274 dL_calls_1 ⟨by decide, by decide⟩ rfl (by decide) ?_ (fun hc14 => ?_)
  · refine ok_aload_n C 0 dL_calls_274 rfl ?_
    refine ok_aload_n C 2 dL_calls_275 rfl ?_
    refine ok_iconst C (v := 0) dL_calls_276 (by decide) ?_
    refine ok_iald C dL_calls_277 (fun v51 => ?_)
    refine ok_aload_n C 2 dL_calls_278 rfl ?_
    refine ok_iconst C (v := 1) dL_calls_279 (by decide) ?_
    refine ok_iald C dL_calls_280 (fun v52 => ?_)
    refine ok_callV C T [.int v51, .int v52] (F := fX6_put a0 v51 v52) (ctX6_put (C.2.2.2.2.2.2.2.2.1) a0 v51 v52) vlL_76 viX6_put rfl rfl (by decide) rfl (by rw [hR.1, hR.2]; decide) (Nat.le_of_ble_eq_true rfl) dL_calls_281 (ok_qI fun v53 s54 => ?_)
    refine ok_i2l C dL_calls_284 ?_
    exact ok_lreturn C dL_calls_285
  refine ok_tsw C 15 286 dL_calls_1 ⟨by decide, by decide⟩ rfl (by decide) ?_ (fun hc15 => ?_)
  · refine ok_aload_n C 0 dL_calls_286 rfl ?_
    refine ok_aload_n C 2 dL_calls_287 rfl ?_
    refine ok_iconst C (v := 0) dL_calls_288 (by decide) ?_
    refine ok_iald C dL_calls_289 (fun v55 => ?_)
    refine ok_aload_n C 2 dL_calls_290 rfl ?_
    refine ok_iconst C (v := 1) dL_calls_291 (by decide) ?_
    refine ok_iald C dL_calls_292 (fun v56 => ?_)
    refine ok_callV C T [.int v55, .int v56] (F := fX6_take a0 v55 v56) (ctX6_take (C.2.2.2.2.2.2.2.2.1) a0 v55 v56) vlL_79 viX6_take rfl rfl (by decide) rfl (by rw [hR.1, hR.2]; decide) (Nat.le_of_ble_eq_true rfl) dL_calls_293 (ok_qI fun v57 s58 => ?_)
    refine ok_i2l C dL_calls_296 ?_
    exact ok_lreturn C dL_calls_297
  refine ok_tsw C 16 298 dL_calls_1 ⟨by decide, by decide⟩ rfl (by decide) ?_ (fun hc16 => ?_)
  · refine ok_aload_n C 0 dL_calls_298 rfl ?_
    refine ok_aload_n C 2 dL_calls_299 rfl ?_
    refine ok_iconst C (v := 0) dL_calls_300 (by decide) ?_
    refine ok_iald C dL_calls_301 (fun v59 => ?_)
    refine ok_aload_n C 2 dL_calls_302 rfl ?_
    refine ok_iconst C (v := 1) dL_calls_303 (by decide) ?_
    refine ok_iald C dL_calls_304 (fun v60 => ?_)
    refine ok_iconst C (v := 1) dL_calls_305 (by decide) ?_
    refine ok_icmp_ne C 313 dL_calls_306 (by decide) ?_ ?_
    · refine ok_iconst C (v := 0) dL_calls_313 (by decide) ?_
      refine OK.sub (lv' := []) [] rfl ?_
      exact oL_calls_314 C T hn hR hin a0 v59 0 s0
    · refine ok_iconst C (v := 1) dL_calls_309 (by decide) ?_
      refine ok_goto C 314 dL_calls_310 (by decide) ?_
      refine OK.sub (lv' := []) [] rfl ?_
      exact oL_calls_314 C T hn hR hin a0 v59 1 s0
  refine ok_tsw C 17 319 dL_calls_1 ⟨by decide, by decide⟩ rfl (by decide) ?_ (fun hc17 => ?_)
  · refine ok_aload_n C 0 dL_calls_319 rfl ?_
    refine ok_aload_n C 2 dL_calls_320 rfl ?_
    refine ok_iconst C (v := 0) dL_calls_321 (by decide) ?_
    refine ok_iald C dL_calls_322 (fun v61 => ?_)
    refine ok_aload_n C 2 dL_calls_323 rfl ?_
    refine ok_iconst C (v := 1) dL_calls_324 (by decide) ?_
    refine ok_iald C dL_calls_325 (fun v62 => ?_)
    refine ok_callV C T [.int v61, .int v62] (F := fX6_open a0 v61 v62) (ctX6_open (C.2.2.2.2.2.2.2.2.1) a0 v61 v62) vlL_86 viX6_open rfl rfl (by decide) rfl (by rw [hR.1, hR.2]; decide) (Nat.le_of_ble_eq_true rfl) dL_calls_326 (ok_qI fun v63 s64 => ?_)
    refine ok_i2l C dL_calls_329 ?_
    exact ok_lreturn C dL_calls_330
  refine ok_tsw C 18 331 dL_calls_1 ⟨by decide, by decide⟩ rfl (by decide) ?_ (fun hc18 => ?_)
  · refine ok_aload_n C 0 dL_calls_331 rfl ?_
    refine ok_aload_n C 2 dL_calls_332 rfl ?_
    refine ok_iconst C (v := 0) dL_calls_333 (by decide) ?_
    refine ok_iald C dL_calls_334 (fun v65 => ?_)
    refine ok_callV C T [.int v65] (F := fX6_lock a0 v65) (ctX6_lock (C.2.2.2.2.2.2.2.2.1) a0 v65) vlL_89 viX6_lock rfl rfl (by decide) rfl (by rw [hR.1, hR.2]; decide) (Nat.le_of_ble_eq_true rfl) dL_calls_335 (ok_qI fun v66 s67 => ?_)
    refine ok_i2l C dL_calls_338 ?_
    exact ok_lreturn C dL_calls_339
  refine ok_tsw C 19 340 dL_calls_1 ⟨by decide, by decide⟩ rfl (by decide) ?_ (fun hc19 => ?_)
  · refine ok_aload_n C 0 dL_calls_340 rfl ?_
    refine ok_aload_n C 2 dL_calls_341 rfl ?_
    refine ok_iconst C (v := 0) dL_calls_342 (by decide) ?_
    refine ok_iald C dL_calls_343 (fun v68 => ?_)
    refine ok_callV C T [.int v68] (F := fX6_relock a0 v68) (ctX6_relock (C.2.2.2.2.2.2.2.2.1) a0 v68) vlL_92 viX6_relock rfl rfl (by decide) rfl (by rw [hR.1, hR.2]; decide) (Nat.le_of_ble_eq_true rfl) dL_calls_344 (ok_qI fun v69 s70 => ?_)
    refine ok_i2l C dL_calls_347 ?_
    exact ok_lreturn C dL_calls_348
  refine ok_tsw C 20 349 dL_calls_1 ⟨by decide, by decide⟩ rfl (by decide) ?_ (fun hc20 => ?_)
  · refine ok_aload_n C 0 dL_calls_349 rfl ?_
    refine ok_aload_n C 2 dL_calls_350 rfl ?_
    refine ok_iconst C (v := 0) dL_calls_351 (by decide) ?_
    refine ok_iald C dL_calls_352 (fun v71 => ?_)
    refine ok_callV C T [.int v71] (F := fX6_tighten a0 v71) (ctX6_tighten (C.2.2.2.2.2.2.2.2.1) a0 v71) vlL_95 viX6_tighten rfl rfl (by decide) rfl (by rw [hR.1, hR.2]; decide) (Nat.le_of_ble_eq_true rfl) dL_calls_353 (ok_qI fun v72 s73 => ?_)
    refine ok_i2l C dL_calls_356 ?_
    exact ok_lreturn C dL_calls_357
  refine ok_tsw C 21 358 dL_calls_1 ⟨by decide, by decide⟩ rfl (by decide) ?_ (fun hc21 => ?_)
  · refine ok_aload_n C 0 dL_calls_358 rfl ?_
    refine ok_aload_n C 2 dL_calls_359 rfl ?_
    refine ok_iconst C (v := 0) dL_calls_360 (by decide) ?_
    refine ok_iald C dL_calls_361 (fun v74 => ?_)
    refine ok_callV C T [.int v74] (F := fX6_print a0 v74) (ctX6_print (C.2.2.2.2.2.2.2.2.1) a0 v74) vlL_98 viX6_print rfl rfl (by decide) rfl (by rw [hR.1, hR.2]; decide) (Nat.le_of_ble_eq_true rfl) dL_calls_362 (ok_qI fun v75 s76 => ?_)
    refine ok_i2l C dL_calls_365 ?_
    exact ok_lreturn C dL_calls_366
  refine ok_tsw C 22 367 dL_calls_1 ⟨by decide, by decide⟩ rfl (by decide) ?_ (fun hc22 => ?_)
  · refine ok_aload_n C 0 dL_calls_367 rfl ?_
    refine ok_aload_n C 2 dL_calls_368 rfl ?_
    refine ok_iconst C (v := 0) dL_calls_369 (by decide) ?_
    refine ok_iald C dL_calls_370 (fun v77 => ?_)
    refine ok_callV C T [.int v77] (F := fX6_rest a0 v77) (ctX6_rest (C.2.2.2.2.2.2.2.2.1) a0 v77) vlL_101 viX6_rest rfl rfl (by decide) rfl (by rw [hR.1, hR.2]; decide) (Nat.le_of_ble_eq_true rfl) dL_calls_371 (ok_qI fun v78 s79 => ?_)
    refine ok_i2l C dL_calls_374 ?_
    exact ok_lreturn C dL_calls_375
  refine ok_tsw C 23 376 dL_calls_1 ⟨by decide, by decide⟩ rfl (by decide) ?_ (fun hc23 => ?_)
  · refine ok_aload_n C 0 dL_calls_376 rfl ?_
    refine ok_aload_n C 2 dL_calls_377 rfl ?_
    refine ok_iconst C (v := 0) dL_calls_378 (by decide) ?_
    refine ok_iald C dL_calls_379 (fun v80 => ?_)
    refine ok_aload_n C 2 dL_calls_380 rfl ?_
    refine ok_iconst C (v := 1) dL_calls_381 (by decide) ?_
    refine ok_iald C dL_calls_382 (fun v81 => ?_)
    refine ok_callV C T [.int v80, .int v81] (F := fX6_buy a0 v80 v81) (ctX6_buy (C.2.2.2.2.2.2.2.2.1) a0 v80 v81) vlL_104 viX6_buy rfl rfl (by decide) rfl (by rw [hR.1, hR.2]; decide) (Nat.le_of_ble_eq_true rfl) dL_calls_383 (ok_qI fun v82 s83 => ?_)
    refine ok_i2l C dL_calls_386 ?_
    exact ok_lreturn C dL_calls_387
  refine ok_tsw C 24 388 dL_calls_1 ⟨by decide, by decide⟩ rfl (by decide) ?_ (fun hc24 => ?_)
  · refine ok_aload_n C 0 dL_calls_388 rfl ?_
    refine ok_callV C T [] (F := fX6_undo a0) (ctX6_undo (C.2.2.2.2.2.2.2.2.1) a0) vlL_107 viX6_undo rfl rfl (by decide) rfl (by rw [hR.1, hR.2]; decide) (Nat.le_of_ble_eq_true rfl) dL_calls_389 (ok_qI fun v84 s85 => ?_)
    refine ok_i2l C dL_calls_392 ?_
    exact ok_lreturn C dL_calls_393
  refine ok_tsw C 25 394 dL_calls_1 ⟨by decide, by decide⟩ rfl (by decide) ?_ (fun hc25 => ?_)
  · refine ok_aload_n C 0 dL_calls_394 rfl ?_
    refine ok_aload_n C 2 dL_calls_395 rfl ?_
    refine ok_iconst C (v := 0) dL_calls_396 (by decide) ?_
    refine ok_iald C dL_calls_397 (fun v86 => ?_)
    refine ok_callV C T [.int v86] (F := fX6_save a0 v86) (ctX6_save (C.2.2.2.2.2.2.2.2.1) a0 v86) vlL_110 viX6_save rfl rfl (by decide) rfl (by rw [hR.1, hR.2]; decide) (Nat.le_of_ble_eq_true rfl) dL_calls_398 (ok_qI fun v87 s88 => ?_)
    refine ok_i2l C dL_calls_401 ?_
    exact ok_lreturn C dL_calls_402
  refine ok_tsw C 26 403 dL_calls_1 ⟨by decide, by decide⟩ rfl (by decide) ?_ (fun hc26 => ?_)
  · refine ok_aload_n C 0 dL_calls_403 rfl ?_
    refine ok_aload_n C 2 dL_calls_404 rfl ?_
    refine ok_iconst C (v := 0) dL_calls_405 (by decide) ?_
    refine ok_iald C dL_calls_406 (fun v89 => ?_)
    refine ok_callV C T [.int v89] (F := fX6_restore a0 v89) (ctX6_restore (C.2.2.2.2.2.2.2.2.1) a0 v89) vlL_113 viX6_restore rfl rfl (by decide) rfl (by rw [hR.1, hR.2]; decide) (Nat.le_of_ble_eq_true rfl) dL_calls_407 (ok_qI fun v90 s91 => ?_)
    refine ok_i2l C dL_calls_410 ?_
    exact ok_lreturn C dL_calls_411
  refine ok_tdf C 412 dL_calls_1 (by have nhc0 := ax_ne hc0; have nhc1 := ax_ne hc1; have nhc2 := ax_ne hc2; have nhc3 := ax_ne hc3; have nhc4 := ax_ne hc4; have nhc5 := ax_ne hc5; have nhc6 := ax_ne hc6; have nhc7 := ax_ne hc7; have nhc8 := ax_ne hc8; have nhc9 := ax_ne hc9; have nhc10 := ax_ne hc10; have nhc11 := ax_ne hc11; have nhc12 := ax_ne hc12; have nhc13 := ax_ne hc13; have nhc14 := ax_ne hc14; have nhc15 := ax_ne hc15; have nhc16 := ax_ne hc16; have nhc17 := ax_ne hc17; have nhc18 := ax_ne hc18; have nhc19 := ax_ne hc19; have nhc20 := ax_ne hc20; have nhc21 := ax_ne hc21; have nhc22 := ax_ne hc22; have nhc23 := ax_ne hc23; have nhc24 := ax_ne hc24; have nhc25 := ax_ne hc25; have nhc26 := ax_ne hc26; rw [show ((0 : Int32)).toInt = 0 from rfl] at nhc0; rw [show ((1 : Int32)).toInt = 1 from rfl] at nhc1; rw [show ((2 : Int32)).toInt = 2 from rfl] at nhc2; rw [show ((3 : Int32)).toInt = 3 from rfl] at nhc3; rw [show ((4 : Int32)).toInt = 4 from rfl] at nhc4; rw [show ((5 : Int32)).toInt = 5 from rfl] at nhc5; rw [show ((6 : Int32)).toInt = 6 from rfl] at nhc6; rw [show ((7 : Int32)).toInt = 7 from rfl] at nhc7; rw [show ((8 : Int32)).toInt = 8 from rfl] at nhc8; rw [show ((9 : Int32)).toInt = 9 from rfl] at nhc9; rw [show ((10 : Int32)).toInt = 10 from rfl] at nhc10; rw [show ((11 : Int32)).toInt = 11 from rfl] at nhc11; rw [show ((12 : Int32)).toInt = 12 from rfl] at nhc12; rw [show ((13 : Int32)).toInt = 13 from rfl] at nhc13; rw [show ((14 : Int32)).toInt = 14 from rfl] at nhc14; rw [show ((15 : Int32)).toInt = 15 from rfl] at nhc15; rw [show ((16 : Int32)).toInt = 16 from rfl] at nhc16; rw [show ((17 : Int32)).toInt = 17 from rfl] at nhc17; rw [show ((18 : Int32)).toInt = 18 from rfl] at nhc18; rw [show ((19 : Int32)).toInt = 19 from rfl] at nhc19; rw [show ((20 : Int32)).toInt = 20 from rfl] at nhc20; rw [show ((21 : Int32)).toInt = 21 from rfl] at nhc21; rw [show ((22 : Int32)).toInt = 22 from rfl] at nhc22; rw [show ((23 : Int32)).toInt = 23 from rfl] at nhc23; rw [show ((24 : Int32)).toInt = 24 from rfl] at nhc24; rw [show ((25 : Int32)).toInt = 25 from rfl] at nhc25; rw [show ((26 : Int32)).toInt = 26 from rfl] at nhc26; omega) (by decide) ?_
  refine ok_aload_n C 0 dL_calls_412 rfl ?_
  refine ok_aload_n C 2 dL_calls_413 rfl ?_
  refine ok_iconst C (v := 0) dL_calls_414 (by decide) ?_
  refine ok_iald C dL_calls_415 (fun v92 => ?_)
  refine ok_callV C T [.int v92] (F := fX6_load a0 v92) (ctX6_load (C.2.2.2.2.2.2.2.2.1) a0 v92) vlL_29 viX6_load rfl rfl (by decide) rfl (by rw [hR.1, hR.2]; decide) (Nat.le_of_ble_eq_true rfl) dL_calls_416 (ok_qI fun v93 s94 => ?_)
  refine ok_i2l C dL_calls_419 ?_
  exact ok_lreturn C dL_calls_420
theorem ctL_calls {l : Launch} (hl : l.stackTraces = false) {D : va_G} {dA : Nat → ClassId} {B0 : Nat} (a0 : Nat) (x1 : Int32) (a2 : Nat) : Ct l D dA B0 yL_calls (.code yL_calls cL_calls 3 (some (.long)) :: ax_ALL) 10 255 [.ref a0, .int x1, .ref a2] (fL_calls a0 x1 a2) :=
  Ct.of hl (by decide +kernel) (Nat.le_of_ble_eq_true rfl) fun Γ C _ _ _ _ e5 e6 e7 T hin => oL_calls C T e5 ⟨e6, e7⟩ hin a0 x1 a2 _
/-! ChaseLockerLaw.thrown(LChaseLocker;I[I)I -/
def hxL_thrown : List (String × Int32 × (Nat × Nat × Nat × Nat)) := [("java/lang/IllegalStateException", 1, (13, 31, 32, 128)), ("java/lang/IndexOutOfBoundsException", 2, (13, 31, 36, 130)), ("java/lang/IllegalArgumentException", 3, (13, 31, 40, 132))]
def fL_thrown (a0 : Nat) (x1 : Int32) (a2 : Nat) (s0 : AS) : Option AR :=
  nA s0 100 5 (fun q1 s2 =>
  aL s2 a2 100 (fun v3 =>
  cpI 100 .int s2 a2 0 q1 0 v3 (fun s4 =>
  cG s4 (fL_calls a0 x1 q1 s4) hxL_thrown (qJ (fun l5 s6 =>
  if (lg_cmp l5 (-99999 : Int64)) = 0 then (
    some (.inl (some (.int 0)), s6))
  else (
    some (.inl (some (.int 0)), s6)))))))
theorem hXL_thrown : ∀ z ∈ hxL_thrown, ax_HX RL 16 5 cL_thrown z := List.forall_mem_cons.mpr ⟨⟨by decide, by decide, kw_1004, by decide, 1, 2, Or.inl ⟨4, dL_thrown_32, by decide, rfl⟩, dL_thrown_34, rfl, dL_thrown_35⟩, List.forall_mem_cons.mpr ⟨⟨by decide, by decide, kw_1005, by decide, 2, 2, Or.inl ⟨4, dL_thrown_36, by decide, rfl⟩, dL_thrown_38, rfl, dL_thrown_39⟩, List.forall_mem_cons.mpr ⟨⟨by decide, by decide, kw_1006, by decide, 3, 2, Or.inl ⟨4, dL_thrown_40, by decide, rfl⟩, dL_thrown_42, rfl, dL_thrown_43⟩, fun _ h => absurd h List.not_mem_nil⟩⟩⟩
set_option maxHeartbeats 4000000 in
theorem oL_thrown {Γ : CX} (C : OKC Γ cL_thrown RL (some (.int))) (T : (cx_c Γ).exceptionTable.toList = tableOf (hxL_thrown.map fun z => z.2.2)) (hn : cx_nL Γ = 5) (hR : cx_fr Γ = 11 ∧ cx_lo Γ = 277) (hin : (cx_meth Γ).name = yL_thrown.name) : ∀ (a0 : Nat) (x1 : Int32) (a2 : Nat) (s0 : AS), OK Γ 0 [(0, .ref a0), (1, .int x1), (2, .ref a2)] [] (fL_thrown a0 x1 a2 s0) s0 := by
  intro a0 x1 a2 s0
  unfold fL_thrown
  refine ok_iconst C (v := 5) dL_thrown_0 (by decide) ?_
  refine ok_newI C kw_136 dL_thrown_1 (fun q1 s2 => ?_)
  refine ok_astore_n C (i := 3) [(3, .ref q1), (0, .ref a0), (1, .int x1), (2, .ref a2)] dL_thrown_3 rfl (by rw [hn]; decide) rfl ?_
  refine ok_aload_n C 3 dL_thrown_4 rfl ?_
  refine ok_iconst C (v := 0) dL_thrown_5 (by decide) ?_
  refine ok_aload_n C 0 dL_thrown_6 rfl ?_
  refine ok_iconst C (v := 0) dL_thrown_7 (by decide) ?_
  refine ok_aload_n C 3 dL_thrown_8 rfl ?_
  refine ok_alen C 100 0 (fun _ => rfl) (by decide) dL_thrown_9 (fun v3 => ?_)
  refine ok_copyI C 100 0 clL_116 (fun _ => rfl) rfl (by decide) (by decide) (by decide) (by decide) (by rw [hR.1]; decide) (by rw [hR.2]; exact Nat.le_of_ble_eq_true rfl) dL_thrown_10 (fun s4 => ?_)
  refine ok_aload_n C 1 dL_thrown_13 rfl ?_
  refine ok_iload_n C 2 dL_thrown_14 rfl ?_
  refine ok_aload_n C 0 dL_thrown_15 rfl ?_
  refine ok_callSH C hxL_thrown (by rw [hn]; exact hXL_thrown) T [.ref a0, .int x1, .ref q1] (F := fL_calls a0 x1 q1) (ctL_calls (C.2.2.2.2.2.2.2.2.1) a0 x1 q1) vlL_122 kw_1002 rfl (by rw [hR.1, hR.2]; decide) (Nat.le_of_ble_eq_true rfl) dL_thrown_16 (ok_qJ fun l5 s6 => ?_)
  refine ok_ldc2 C (v := (-99999)) kw_1003 dL_thrown_19 ?_
  refine ok_lcmp C dL_thrown_22 ?_
  refine ok_if_ne C 30 dL_thrown_23 (by decide) ?_ ?_
  · refine ok_iconst C (v := 0) dL_thrown_30 (by decide) ?_
    exact ok_ireturn C dL_thrown_31
  · refine ok_iconst C (v := 0) dL_thrown_26 (by decide) ?_
    refine ok_goto C 31 dL_thrown_27 (by decide) ?_
    exact ok_ireturn C dL_thrown_31
theorem ctL_thrown {l : Launch} (hl : l.stackTraces = false) {D : va_G} {dA : Nat → ClassId} {B0 : Nat} (a0 : Nat) (x1 : Int32) (a2 : Nat) : Ct l D dA B0 yL_thrown (.codeWith yL_thrown cL_thrown 5 (some (.int)) [(13, 31, 32, 128), (13, 31, 36, 130), (13, 31, 40, 132)] :: ax_ALL) 11 277 [.ref a0, .int x1, .ref a2] (fL_thrown a0 x1 a2) :=
  Ct.ofW hl (by decide +kernel) (Nat.le_of_ble_eq_true rfl) fun Γ C _ _ _ _ e5 e6 e7 T hin => oL_thrown C T e5 ⟨e6, e7⟩ hin a0 x1 a2 _
/-! ChaseLockerLaw.isText(LChaseLocker;ILjava/lang/String;)Z -/
def fL_isText_41  (a0 : Nat) (x1 : Int32) (s0 : AS) : Option AR :=
  nA s0 100 1 (fun q1 s2 =>
  uI s2 q1 0 x1 (fun s3 =>
  cR s3 (fL_thrown a0 11 q1 s3) (qI (fun v4 s5 =>
  if v4 = (2 : Int32) then (
    rZ 1 s5)
  else (
    rZ 0 s5)))))
def fL_isText_12  : Nat → Nat → Int32 → Nat → Int32 → AS → Option AR
  | 0, _, _, _, _, _ => none
  | n + 1, a0, x1, a2, x3, s0 =>
    cV s0 a2 0 (fJ0_length_8abf5D a2 s0) (qI (fun v1 s2 =>
    if v1 ≤ x3 then (
      fL_isText_41 a0 x1 s2)
    else (
      cV s2 a0 10 (fX6_textByte a0 x3 s2) (qI (fun v3 s4 =>
      cV s4 a2 0 (fJ0_charAt_5068eD a2 x3 s4) (qI (fun v5 s6 =>
      if v3 = v5 then (
        lt (x3 + 1) (fun v7 =>
        fL_isText_12 n a0 x1 a2 v7 s6))
      else (
        rZ 0 s6))))))))
def fL_isText (a0 : Nat) (x1 : Int32) (a2 : Nat) (s0 : AS) : Option AR :=
  cV s0 a2 0 (fJ0_length_8abf5D a2 s0) (qI (fun v1 s2 =>
  if x1 = v1 then (
    fL_isText_12 FU a0 x1 a2 0 s2)
  else (
    rZ 0 s2)))
set_option maxHeartbeats 4000000 in
theorem oL_isText_41 {Γ : CX} (C : OKC Γ cL_isText RL (some (.boolean))) (T : ∀ z ∈ (cx_c Γ).exceptionTable.toList, False) (hn : cx_nL Γ = 4) (hR : cx_fr Γ = 12 ∧ cx_lo Γ = 301) (hin : (cx_meth Γ).name = yL_isText.name) : ∀ (a0 : Nat) (x1 : Int32) (s0 : AS), OK Γ 41 [(0, .ref a0), (1, .int x1)] [] (fL_isText_41  a0 x1 s0) s0 := by
  intro a0 x1 s0
  unfold fL_isText_41
  refine ok_aload_n C 0 dL_isText_41 rfl ?_
  refine ok_bipush C (v := 11) dL_isText_42 (by decide) ?_
  refine ok_iconst C (v := 1) dL_isText_44 (by decide) ?_
  refine ok_newI C kw_136 dL_isText_45 (fun q1 s2 => ?_)
  refine ok_dup C dL_isText_47 rfl ?_
  refine ok_iconst C (v := 0) dL_isText_48 (by decide) ?_
  refine ok_iload_n C 1 dL_isText_49 rfl ?_
  refine ok_iast C dL_isText_50 (fun s3 _ => ?_)
  refine ok_callSW C [.ref a0, .int 11, .ref q1] (F := fL_thrown a0 11 q1) (ctL_thrown (C.2.2.2.2.2.2.2.2.1) a0 11 q1) vwL_189 rfl (by rw [hR.1, hR.2]; decide) (Nat.le_of_ble_eq_true rfl) dL_isText_51 (ok_qI fun v4 s5 => ?_)
  refine ok_iconst C (v := 2) dL_isText_54 (by decide) ?_
  refine ok_icmp_ne C 62 dL_isText_55 (by decide) ?_ ?_
  · refine ok_iconst C (v := 0) dL_isText_62 (by decide) ?_
    exact ok_zreturn C dL_isText_63
  · refine ok_iconst C (v := 1) dL_isText_58 (by decide) ?_
    refine ok_goto C 63 dL_isText_59 (by decide) ?_
    exact ok_zreturn C dL_isText_63
set_option maxHeartbeats 4000000 in
theorem oL_isText_12 {Γ : CX} (C : OKC Γ cL_isText RL (some (.boolean))) (T : ∀ z ∈ (cx_c Γ).exceptionTable.toList, False) (hn : cx_nL Γ = 4) (hR : cx_fr Γ = 12 ∧ cx_lo Γ = 301) (hin : (cx_meth Γ).name = yL_isText.name) : ∀ (n : Nat) (a0 : Nat) (x1 : Int32) (a2 : Nat) (x3 : Int32) (s0 : AS), OK Γ 12 [(0, .ref a0), (1, .int x1), (2, .ref a2), (3, .int x3)] [] (fL_isText_12 n a0 x1 a2 x3 s0) s0 := by
  intro n
  induction n with
  | zero => intro _ _ _ _ s0; exact OK.none
  | succ n ih =>
    intro a0 x1 a2 x3 s0
    rw [fL_isText_12]
    refine ok_iload_n C 3 dL_isText_12 rfl ?_
    refine ok_aload_n C 2 dL_isText_13 rfl ?_
    refine ok_callV C T [] (F := fJ0_length_8abf5D a2) (ctJ0_length_8abf5D (C.2.2.2.2.2.2.2.2.1) a2) vlL_7 viJ0_length_8abf5 rfl rfl (by decide) rfl (by rw [hR.1, hR.2]; decide) (Nat.le_of_ble_eq_true rfl) dL_isText_14 (ok_qI fun v1 s2 => ?_)
    refine ok_icmp_ge C 41 dL_isText_17 (by decide) ?_ ?_
    · refine OK.sub (lv' := [(0, .ref a0), (1, .int x1)]) [0, 1] rfl ?_
      exact oL_isText_41 C T hn hR hin a0 x1 s2
    · refine ok_aload_n C 0 dL_isText_20 rfl ?_
      refine ok_iload_n C 3 dL_isText_21 rfl ?_
      refine ok_callV C T [.int x3] (F := fX6_textByte a0 x3) (ctX6_textByte (C.2.2.2.2.2.2.2.2.1) a0 x3) vlL_67 viX6_textByte rfl rfl (by decide) rfl (by rw [hR.1, hR.2]; decide) (Nat.le_of_ble_eq_true rfl) dL_isText_22 (ok_qI fun v3 s4 => ?_)
      refine ok_aload_n C 2 dL_isText_25 rfl ?_
      refine ok_iload_n C 3 dL_isText_26 rfl ?_
      refine ok_callV C T [.int x3] (F := fJ0_charAt_5068eD a2 x3) (ctJ0_charAt_5068eD (C.2.2.2.2.2.2.2.2.1) a2 x3) vlL_13 viJ0_charAt_5068e rfl rfl (by decide) rfl (by rw [hR.1, hR.2]; decide) (Nat.le_of_ble_eq_true rfl) dL_isText_27 (ok_qI fun v5 s6 => ?_)
      refine ok_icmp_eq C 35 dL_isText_30 (by decide) ?_ ?_
      · refine ok_iincL C 3 (c := 1) (fun v7 => [(3, .int v7), (0, .ref a0), (1, .int x1), (2, .ref a2)]) dL_isText_35 rfl rfl (by rw [hn]; decide) (fun _ => rfl) (fun v7 => ?_)
        refine ok_goto C 12 dL_isText_38 (by decide) ?_
        refine OK.sub (lv' := [(0, .ref a0), (1, .int x1), (2, .ref a2), (3, .int v7)]) [1, 2, 3, 0] rfl ?_
        exact ih a0 x1 a2 v7 s6
      · refine ok_iconst C (v := 0) dL_isText_33 (by decide) ?_
        exact ok_zreturn C dL_isText_34
set_option maxHeartbeats 4000000 in
theorem oL_isText {Γ : CX} (C : OKC Γ cL_isText RL (some (.boolean))) (T : ∀ z ∈ (cx_c Γ).exceptionTable.toList, False) (hn : cx_nL Γ = 4) (hR : cx_fr Γ = 12 ∧ cx_lo Γ = 301) (hin : (cx_meth Γ).name = yL_isText.name) : ∀ (a0 : Nat) (x1 : Int32) (a2 : Nat) (s0 : AS), OK Γ 0 [(0, .ref a0), (1, .int x1), (2, .ref a2)] [] (fL_isText a0 x1 a2 s0) s0 := by
  intro a0 x1 a2 s0
  unfold fL_isText
  refine ok_iload_n C 1 dL_isText_0 rfl ?_
  refine ok_aload_n C 2 dL_isText_1 rfl ?_
  refine ok_callV C T [] (F := fJ0_length_8abf5D a2) (ctJ0_length_8abf5D (C.2.2.2.2.2.2.2.2.1) a2) vlL_7 viJ0_length_8abf5 rfl rfl (by decide) rfl (by rw [hR.1, hR.2]; decide) (Nat.le_of_ble_eq_true rfl) dL_isText_2 (ok_qI fun v1 s2 => ?_)
  refine ok_icmp_eq C 10 dL_isText_5 (by decide) ?_ ?_
  · refine ok_iconst C (v := 0) dL_isText_10 (by decide) ?_
    refine ok_istore_n C (i := 3) [(3, .int 0), (0, .ref a0), (1, .int x1), (2, .ref a2)] dL_isText_11 rfl (by rw [hn]; decide) rfl ?_
    refine OK.sub (lv' := [(0, .ref a0), (1, .int x1), (2, .ref a2), (3, .int 0)]) [1, 2, 3, 0] rfl ?_
    exact oL_isText_12 C T hn hR hin FU a0 x1 a2 0 s2
  · refine ok_iconst C (v := 0) dL_isText_8 (by decide) ?_
    exact ok_zreturn C dL_isText_9
theorem ctL_isText {l : Launch} (hl : l.stackTraces = false) {D : va_G} {dA : Nat → ClassId} {B0 : Nat} (a0 : Nat) (x1 : Int32) (a2 : Nat) : Ct l D dA B0 yL_isText (.code yL_isText cL_isText 4 (some (.boolean)) :: ax_ALL) 12 301 [.ref a0, .int x1, .ref a2] (fL_isText a0 x1 a2) :=
  Ct.of hl (by decide +kernel) (Nat.le_of_ble_eq_true rfl) fun Γ C _ _ _ _ e5 e6 e7 T hin => oL_isText C T e5 ⟨e6, e7⟩ hin a0 x1 a2 _
