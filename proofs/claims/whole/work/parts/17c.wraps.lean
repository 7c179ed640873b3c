/-! ChaseLockerLaw.load(LChaseLocker;I[J)I -/
def hxL_load : List (String × Int32 × (Nat × Nat × Nat × Nat)) := [("java/lang/IndexOutOfBoundsException", 1, (0, 9, 12, 13)), ("java/lang/IllegalArgumentException", 2, (0, 9, 15, 15))]
def fL_load (a0 : Nat) (x1 : Int32) (a2 : Nat) (s0 : AS) : Option AR :=
  cH s0 a0 10 (fX6_load a0 x1 s0) hxL_load (qI (fun v1 s2 =>
  uJ s2 a2 0 (v1.toInt64) (fun s3 =>
  some (.inl (some (.int 0)), s3))))
theorem hXL_load : ∀ z ∈ hxL_load, ax_HX RL 4 4 cL_load z := List.forall_mem_cons.mpr ⟨⟨by decide, by decide, kw_1068, by decide, 1, 1, Or.inr ⟨3, dL_load_12, by decide, rfl⟩, dL_load_13, rfl, dL_load_14⟩, List.forall_mem_cons.mpr ⟨⟨by decide, by decide, kw_1069, by decide, 2, 1, Or.inr ⟨3, dL_load_15, by decide, rfl⟩, dL_load_16, rfl, dL_load_17⟩, fun _ h => absurd h List.not_mem_nil⟩⟩
set_option maxHeartbeats 4000000 in
theorem oL_load {Γ : CX} (C : OKC Γ cL_load RL (some (.int))) (T : (cx_c Γ).exceptionTable.toList = tableOf (hxL_load.map fun z => z.2.2)) (hn : cx_nL Γ = 4) (hR : cx_fr Γ = 10 ∧ cx_lo Γ = 255) (hin : (cx_meth Γ).name = yL_load.name) : ∀ (a0 : Nat) (x1 : Int32) (a2 : Nat) (s0 : AS), OK Γ 0 [(0, .ref a0), (1, .int x1), (2, .ref a2)] [] (fL_load a0 x1 a2 s0) s0 := by
  intro a0 x1 a2 s0
  unfold fL_load
  refine ok_aload_n C 2 dL_load_0 rfl ?_
  refine ok_iconst C (v := 0) dL_load_1 (by decide) ?_
  refine ok_aload_n C 0 dL_load_2 rfl ?_
  refine ok_iload_n C 1 dL_load_3 rfl ?_
  refine ok_callVH C hxL_load (by rw [hn]; exact hXL_load) T [.int x1] (F := fX6_load a0 x1) (ctX6_load (C.2.2.2.2.2.2.2.2.1) a0 x1) vlL_7 viX6_load rfl rfl (by decide) rfl (by rw [hR.1, hR.2]; decide) (Nat.le_of_ble_eq_true rfl) dL_load_4 (ok_qI fun v1 s2 => ?_)
  refine ok_i2l C dL_load_7 ?_
  refine ok_last C dL_load_8 (fun s3 _ => ?_)
  refine ok_goto C 18 dL_load_9 (by decide) ?_
  refine ok_iconst C (v := 0) dL_load_18 (by decide) ?_
  exact ok_ireturn C dL_load_19
theorem ctL_load {l : Launch} (hl : l.stackTraces = false) {D : va_G} {dA : Nat → ClassId} {B0 : Nat} (a0 : Nat) (x1 : Int32) (a2 : Nat) : Ct l D dA B0 yL_load (.codeWith yL_load cL_load 4 (some (.int)) [(0, 9, 12, 13), (0, 9, 15, 15)] :: ax_ALL) 10 255 [.ref a0, .int x1, .ref a2] (fL_load a0 x1 a2) :=
  Ct.ofW hl (by decide +kernel) (Nat.le_of_ble_eq_true rfl) fun Γ C _ _ _ _ e5 e6 e7 T hin => oL_load C T e5 ⟨e6, e7⟩ hin a0 x1 a2 _
/-! ChaseLockerLaw.count(LChaseLocker;I[J)I -/
def hxL_count : List (String × Int32 × (Nat × Nat × Nat × Nat)) := [("java/lang/IllegalStateException", 1, (0, 9, 12, 20)), ("java/lang/IllegalArgumentException", 2, (0, 9, 15, 15))]
def fL_count (a0 : Nat) (x1 : Int32) (a2 : Nat) (s0 : AS) : Option AR :=
  cH s0 a0 10 (fX6_count a0 x1 s0) hxL_count (qI (fun v1 s2 =>
  uJ s2 a2 0 (v1.toInt64) (fun s3 =>
  some (.inl (some (.int 0)), s3))))
theorem hXL_count : ∀ z ∈ hxL_count, ax_HX RL 4 4 cL_count z := List.forall_mem_cons.mpr ⟨⟨by decide, by decide, kw_1074, by decide, 1, 1, Or.inr ⟨3, dL_count_12, by decide, rfl⟩, dL_count_13, rfl, dL_count_14⟩, List.forall_mem_cons.mpr ⟨⟨by decide, by decide, kw_1069, by decide, 2, 1, Or.inr ⟨3, dL_count_15, by decide, rfl⟩, dL_count_16, rfl, dL_count_17⟩, fun _ h => absurd h List.not_mem_nil⟩⟩
set_option maxHeartbeats 4000000 in
theorem oL_count {Γ : CX} (C : OKC Γ cL_count RL (some (.int))) (T : (cx_c Γ).exceptionTable.toList = tableOf (hxL_count.map fun z => z.2.2)) (hn : cx_nL Γ = 4) (hR : cx_fr Γ = 8 ∧ cx_lo Γ = 167) (hin : (cx_meth Γ).name = yL_count.name) : ∀ (a0 : Nat) (x1 : Int32) (a2 : Nat) (s0 : AS), OK Γ 0 [(0, .ref a0), (1, .int x1), (2, .ref a2)] [] (fL_count a0 x1 a2 s0) s0 := by
  intro a0 x1 a2 s0
  unfold fL_count
  refine ok_aload_n C 2 dL_count_0 rfl ?_
  refine ok_iconst C (v := 0) dL_count_1 (by decide) ?_
  refine ok_aload_n C 0 dL_count_2 rfl ?_
  refine ok_iload_n C 1 dL_count_3 rfl ?_
  refine ok_callVH C hxL_count (by rw [hn]; exact hXL_count) T [.int x1] (F := fX6_count a0 x1) (ctX6_count (C.2.2.2.2.2.2.2.2.1) a0 x1) vlL_17 viX6_count rfl rfl (by decide) rfl (by rw [hR.1, hR.2]; decide) (Nat.le_of_ble_eq_true rfl) dL_count_4 (ok_qI fun v1 s2 => ?_)
  refine ok_i2l C dL_count_7 ?_
  refine ok_last C dL_count_8 (fun s3 _ => ?_)
  refine ok_goto C 18 dL_count_9 (by decide) ?_
  refine ok_iconst C (v := 0) dL_count_18 (by decide) ?_
  exact ok_ireturn C dL_count_19
theorem ctL_count {l : Launch} (hl : l.stackTraces = false) {D : va_G} {dA : Nat → ClassId} {B0 : Nat} (a0 : Nat) (x1 : Int32) (a2 : Nat) : Ct l D dA B0 yL_count (.codeWith yL_count cL_count 4 (some (.int)) [(0, 9, 12, 20), (0, 9, 15, 15)] :: ax_ALL) 8 167 [.ref a0, .int x1, .ref a2] (fL_count a0 x1 a2) :=
  Ct.ofW hl (by decide +kernel) (Nat.le_of_ble_eq_true rfl) fun Γ C _ _ _ _ e5 e6 e7 T hin => oL_count C T e5 ⟨e6, e7⟩ hin a0 x1 a2 _
/-! ChaseLockerLaw.setting(LChaseLocker;I[J)I -/
def hxL_setting : List (String × Int32 × (Nat × Nat × Nat × Nat)) := [("java/lang/IllegalStateException", 1, (0, 9, 12, 20)), ("java/lang/IllegalArgumentException", 2, (0, 9, 15, 15))]
def fL_setting (a0 : Nat) (x1 : Int32) (a2 : Nat) (s0 : AS) : Option AR :=
  cH s0 a0 10 (fX6_setting a0 x1 s0) hxL_setting (qI (fun v1 s2 =>
  uJ s2 a2 0 (v1.toInt64) (fun s3 =>
  some (.inl (some (.int 0)), s3))))
theorem hXL_setting : ∀ z ∈ hxL_setting, ax_HX RL 4 4 cL_setting z := List.forall_mem_cons.mpr ⟨⟨by decide, by decide, kw_1074, by decide, 1, 1, Or.inr ⟨3, dL_setting_12, by decide, rfl⟩, dL_setting_13, rfl, dL_setting_14⟩, List.forall_mem_cons.mpr ⟨⟨by decide, by decide, kw_1069, by decide, 2, 1, Or.inr ⟨3, dL_setting_15, by decide, rfl⟩, dL_setting_16, rfl, dL_setting_17⟩, fun _ h => absurd h List.not_mem_nil⟩⟩
set_option maxHeartbeats 4000000 in
theorem oL_setting {Γ : CX} (C : OKC Γ cL_setting RL (some (.int))) (T : (cx_c Γ).exceptionTable.toList = tableOf (hxL_setting.map fun z => z.2.2)) (hn : cx_nL Γ = 4) (hR : cx_fr Γ = 8 ∧ cx_lo Γ = 131) (hin : (cx_meth Γ).name = yL_setting.name) : ∀ (a0 : Nat) (x1 : Int32) (a2 : Nat) (s0 : AS), OK Γ 0 [(0, .ref a0), (1, .int x1), (2, .ref a2)] [] (fL_setting a0 x1 a2 s0) s0 := by
  intro a0 x1 a2 s0
  unfold fL_setting
  refine ok_aload_n C 2 dL_setting_0 rfl ?_
  refine ok_iconst C (v := 0) dL_setting_1 (by decide) ?_
  refine ok_aload_n C 0 dL_setting_2 rfl ?_
  refine ok_iload_n C 1 dL_setting_3 rfl ?_
  refine ok_callVH C hxL_setting (by rw [hn]; exact hXL_setting) T [.int x1] (F := fX6_setting a0 x1) (ctX6_setting (C.2.2.2.2.2.2.2.2.1) a0 x1) vlL_22 viX6_setting rfl rfl (by decide) rfl (by rw [hR.1, hR.2]; decide) (Nat.le_of_ble_eq_true rfl) dL_setting_4 (ok_qI fun v1 s2 => ?_)
  refine ok_i2l C dL_setting_7 ?_
  refine ok_last C dL_setting_8 (fun s3 _ => ?_)
  refine ok_goto C 18 dL_setting_9 (by decide) ?_
  refine ok_iconst C (v := 0) dL_setting_18 (by decide) ?_
  exact ok_ireturn C dL_setting_19
theorem ctL_setting {l : Launch} (hl : l.stackTraces = false) {D : va_G} {dA : Nat → ClassId} {B0 : Nat} (a0 : Nat) (x1 : Int32) (a2 : Nat) : Ct l D dA B0 yL_setting (.codeWith yL_setting cL_setting 4 (some (.int)) [(0, 9, 12, 20), (0, 9, 15, 15)] :: ax_ALL) 8 131 [.ref a0, .int x1, .ref a2] (fL_setting a0 x1 a2) :=
  Ct.ofW hl (by decide +kernel) (Nat.le_of_ble_eq_true rfl) fun Γ C _ _ _ _ e5 e6 e7 T hin => oL_setting C T e5 ⟨e6, e7⟩ hin a0 x1 a2 _
/-! ChaseLockerLaw.row(LChaseLocker;II[J)I -/
def hxL_row : List (String × Int32 × (Nat × Nat × Nat × Nat)) := [("java/lang/IllegalStateException", 1, (0, 10, 13, 20)), ("java/lang/IndexOutOfBoundsException", 2, (0, 10, 17, 13)), ("java/lang/IllegalArgumentException", 3, (0, 10, 21, 15))]
def fL_row (a0 : Nat) (x1 : Int32) (x2 : Int32) (a3 : Nat) (s0 : AS) : Option AR :=
  cH s0 a0 10 (fX6_row a0 x1 x2 s0) hxL_row (qI (fun v1 s2 =>
  uJ s2 a3 0 (v1.toInt64) (fun s3 =>
  some (.inl (some (.int 0)), s3))))
theorem hXL_row : ∀ z ∈ hxL_row, ax_HX RL 5 5 cL_row z := List.forall_mem_cons.mpr ⟨⟨by decide, by decide, kw_1074, by decide, 1, 2, Or.inl ⟨4, dL_row_13, by decide, rfl⟩, dL_row_15, rfl, dL_row_16⟩, List.forall_mem_cons.mpr ⟨⟨by decide, by decide, kw_1068, by decide, 2, 2, Or.inl ⟨4, dL_row_17, by decide, rfl⟩, dL_row_19, rfl, dL_row_20⟩, List.forall_mem_cons.mpr ⟨⟨by decide, by decide, kw_1069, by decide, 3, 2, Or.inl ⟨4, dL_row_21, by decide, rfl⟩, dL_row_23, rfl, dL_row_24⟩, fun _ h => absurd h List.not_mem_nil⟩⟩⟩
set_option maxHeartbeats 4000000 in
theorem oL_row {Γ : CX} (C : OKC Γ cL_row RL (some (.int))) (T : (cx_c Γ).exceptionTable.toList = tableOf (hxL_row.map fun z => z.2.2)) (hn : cx_nL Γ = 5) (hR : cx_fr Γ = 9 ∧ cx_lo Γ = 154) (hin : (cx_meth Γ).name = yL_row.name) : ∀ (a0 : Nat) (x1 : Int32) (x2 : Int32) (a3 : Nat) (s0 : AS), OK Γ 0 [(0, .ref a0), (1, .int x1), (2, .int x2), (3, .ref a3)] [] (fL_row a0 x1 x2 a3 s0) s0 := by
  intro a0 x1 x2 a3 s0
  unfold fL_row
  refine ok_aload_n C 3 dL_row_0 rfl ?_
  refine ok_iconst C (v := 0) dL_row_1 (by decide) ?_
  refine ok_aload_n C 0 dL_row_2 rfl ?_
  refine ok_iload_n C 1 dL_row_3 rfl ?_
  refine ok_iload_n C 2 dL_row_4 rfl ?_
  refine ok_callVH C hxL_row (by rw [hn]; exact hXL_row) T [.int x1, .int x2] (F := fX6_row a0 x1 x2) (ctX6_row (C.2.2.2.2.2.2.2.2.1) a0 x1 x2) vlL_25 viX6_row rfl rfl (by decide) rfl (by rw [hR.1, hR.2]; decide) (Nat.le_of_ble_eq_true rfl) dL_row_5 (ok_qI fun v1 s2 => ?_)
  refine ok_i2l C dL_row_8 ?_
  refine ok_last C dL_row_9 (fun s3 _ => ?_)
  refine ok_goto C 25 dL_row_10 (by decide) ?_
  refine ok_iconst C (v := 0) dL_row_25 (by decide) ?_
  exact ok_ireturn C dL_row_26
theorem ctL_row {l : Launch} (hl : l.stackTraces = false) {D : va_G} {dA : Nat → ClassId} {B0 : Nat} (a0 : Nat) (x1 : Int32) (x2 : Int32) (a3 : Nat) : Ct l D dA B0 yL_row (.codeWith yL_row cL_row 5 (some (.int)) [(0, 10, 13, 20), (0, 10, 17, 13), (0, 10, 21, 15)] :: ax_ALL) 9 154 [.ref a0, .int x1, .int x2, .ref a3] (fL_row a0 x1 x2 a3) :=
  Ct.ofW hl (by decide +kernel) (Nat.le_of_ble_eq_true rfl) fun Γ C _ _ _ _ e5 e6 e7 T hin => oL_row C T e5 ⟨e6, e7⟩ hin a0 x1 x2 a3 _
/-! ChaseLockerLaw.block(LChaseLocker;II[J)I -/
def hxL_block : List (String × Int32 × (Nat × Nat × Nat × Nat)) := [("java/lang/IllegalStateException", 1, (0, 10, 13, 20)), ("java/lang/IndexOutOfBoundsException", 2, (0, 10, 17, 13))]
def fL_block (a0 : Nat) (x1 : Int32) (x2 : Int32) (a3 : Nat) (s0 : AS) : Option AR :=
  cH s0 a0 10 (fX6_block a0 x1 x2 s0) hxL_block (qI (fun v1 s2 =>
  uJ s2 a3 0 (v1.toInt64) (fun s3 =>
  some (.inl (some (.int 0)), s3))))
theorem hXL_block : ∀ z ∈ hxL_block, ax_HX RL 5 5 cL_block z := List.forall_mem_cons.mpr ⟨⟨by decide, by decide, kw_1074, by decide, 1, 2, Or.inl ⟨4, dL_block_13, by decide, rfl⟩, dL_block_15, rfl, dL_block_16⟩, List.forall_mem_cons.mpr ⟨⟨by decide, by decide, kw_1068, by decide, 2, 2, Or.inl ⟨4, dL_block_17, by decide, rfl⟩, dL_block_19, rfl, dL_block_20⟩, fun _ h => absurd h List.not_mem_nil⟩⟩
set_option maxHeartbeats 4000000 in
theorem oL_block {Γ : CX} (C : OKC Γ cL_block RL (some (.int))) (T : (cx_c Γ).exceptionTable.toList = tableOf (hxL_block.map fun z => z.2.2)) (hn : cx_nL Γ = 5) (hR : cx_fr Γ = 9 ∧ cx_lo Γ = 154) (hin : (cx_meth Γ).name = yL_block.name) : ∀ (a0 : Nat) (x1 : Int32) (x2 : Int32) (a3 : Nat) (s0 : AS), OK Γ 0 [(0, .ref a0), (1, .int x1), (2, .int x2), (3, .ref a3)] [] (fL_block a0 x1 x2 a3 s0) s0 := by
  intro a0 x1 x2 a3 s0
  unfold fL_block
  refine ok_aload_n C 3 dL_block_0 rfl ?_
  refine ok_iconst C (v := 0) dL_block_1 (by decide) ?_
  refine ok_aload_n C 0 dL_block_2 rfl ?_
  refine ok_iload_n C 1 dL_block_3 rfl ?_
  refine ok_iload_n C 2 dL_block_4 rfl ?_
  refine ok_callVH C hxL_block (by rw [hn]; exact hXL_block) T [.int x1, .int x2] (F := fX6_block a0 x1 x2) (ctX6_block (C.2.2.2.2.2.2.2.2.1) a0 x1 x2) vlL_29 viX6_block rfl rfl (by decide) rfl (by rw [hR.1, hR.2]; decide) (Nat.le_of_ble_eq_true rfl) dL_block_5 (ok_qI fun v1 s2 => ?_)
  refine ok_i2l C dL_block_8 ?_
  refine ok_last C dL_block_9 (fun s3 _ => ?_)
  refine ok_goto C 21 dL_block_10 (by decide) ?_
  refine ok_iconst C (v := 0) dL_block_21 (by decide) ?_
  exact ok_ireturn C dL_block_22
theorem ctL_block {l : Launch} (hl : l.stackTraces = false) {D : va_G} {dA : Nat → ClassId} {B0 : Nat} (a0 : Nat) (x1 : Int32) (x2 : Int32) (a3 : Nat) : Ct l D dA B0 yL_block (.codeWith yL_block cL_block 5 (some (.int)) [(0, 10, 13, 20), (0, 10, 17, 13)] :: ax_ALL) 9 154 [.ref a0, .int x1, .int x2, .ref a3] (fL_block a0 x1 x2 a3) :=
  Ct.ofW hl (by decide +kernel) (Nat.le_of_ble_eq_true rfl) fun Γ C _ _ _ _ e5 e6 e7 T hin => oL_block C T e5 ⟨e6, e7⟩ hin a0 x1 x2 a3 _
/-! ChaseLockerLaw.piece(LChaseLocker;II[J)I -/
def hxL_piece : List (String × Int32 × (Nat × Nat × Nat × Nat)) := [("java/lang/IllegalStateException", 1, (0, 10, 13, 20)), ("java/lang/IndexOutOfBoundsException", 2, (0, 10, 17, 13))]
def fL_piece (a0 : Nat) (x1 : Int32) (x2 : Int32) (a3 : Nat) (s0 : AS) : Option AR :=
  cH s0 a0 10 (fX6_piece a0 x1 x2 s0) hxL_piece (qI (fun v1 s2 =>
  uJ s2 a3 0 (v1.toInt64) (fun s3 =>
  some (.inl (some (.int 0)), s3))))
theorem hXL_piece : ∀ z ∈ hxL_piece, ax_HX RL 5 5 cL_piece z := List.forall_mem_cons.mpr ⟨⟨by decide, by decide, kw_1074, by decide, 1, 2, Or.inl ⟨4, dL_piece_13, by decide, rfl⟩, dL_piece_15, rfl, dL_piece_16⟩, List.forall_mem_cons.mpr ⟨⟨by decide, by decide, kw_1068, by decide, 2, 2, Or.inl ⟨4, dL_piece_17, by decide, rfl⟩, dL_piece_19, rfl, dL_piece_20⟩, fun _ h => absurd h List.not_mem_nil⟩⟩
set_option maxHeartbeats 4000000 in
theorem oL_piece {Γ : CX} (C : OKC Γ cL_piece RL (some (.int))) (T : (cx_c Γ).exceptionTable.toList = tableOf (hxL_piece.map fun z => z.2.2)) (hn : cx_nL Γ = 5) (hR : cx_fr Γ = 9 ∧ cx_lo Γ = 154) (hin : (cx_meth Γ).name = yL_piece.name) : ∀ (a0 : Nat) (x1 : Int32) (x2 : Int32) (a3 : Nat) (s0 : AS), OK Γ 0 [(0, .ref a0), (1, .int x1), (2, .int x2), (3, .ref a3)] [] (fL_piece a0 x1 x2 a3 s0) s0 := by
  intro a0 x1 x2 a3 s0
  unfold fL_piece
  refine ok_aload_n C 3 dL_piece_0 rfl ?_
  refine ok_iconst C (v := 0) dL_piece_1 (by decide) ?_
  refine ok_aload_n C 0 dL_piece_2 rfl ?_
  refine ok_iload_n C 1 dL_piece_3 rfl ?_
  refine ok_iload_n C 2 dL_piece_4 rfl ?_
  refine ok_callVH C hxL_piece (by rw [hn]; exact hXL_piece) T [.int x1, .int x2] (F := fX6_piece a0 x1 x2) (ctX6_piece (C.2.2.2.2.2.2.2.2.1) a0 x1 x2) vlL_32 viX6_piece rfl rfl (by decide) rfl (by rw [hR.1, hR.2]; decide) (Nat.le_of_ble_eq_true rfl) dL_piece_5 (ok_qI fun v1 s2 => ?_)
  refine ok_i2l C dL_piece_8 ?_
  refine ok_last C dL_piece_9 (fun s3 _ => ?_)
  refine ok_goto C 21 dL_piece_10 (by decide) ?_
  refine ok_iconst C (v := 0) dL_piece_21 (by decide) ?_
  exact ok_ireturn C dL_piece_22
theorem ctL_piece {l : Launch} (hl : l.stackTraces = false) {D : va_G} {dA : Nat → ClassId} {B0 : Nat} (a0 : Nat) (x1 : Int32) (x2 : Int32) (a3 : Nat) : Ct l D dA B0 yL_piece (.codeWith yL_piece cL_piece 5 (some (.int)) [(0, 10, 13, 20), (0, 10, 17, 13)] :: ax_ALL) 9 154 [.ref a0, .int x1, .int x2, .ref a3] (fL_piece a0 x1 x2 a3) :=
  Ct.ofW hl (by decide +kernel) (Nat.le_of_ble_eq_true rfl) fun Γ C _ _ _ _ e5 e6 e7 T hin => oL_piece C T e5 ⟨e6, e7⟩ hin a0 x1 x2 a3 _
/-! ChaseLockerLaw.kind(LChaseLocker;II[J)I -/
def hxL_kind : List (String × Int32 × (Nat × Nat × Nat × Nat)) := [("java/lang/IllegalStateException", 1, (0, 10, 13, 20)), ("java/lang/IndexOutOfBoundsException", 2, (0, 10, 17, 13)), ("java/lang/IllegalArgumentException", 3, (0, 10, 21, 15))]
def fL_kind (a0 : Nat) (x1 : Int32) (x2 : Int32) (a3 : Nat) (s0 : AS) : Option AR :=
  cH s0 a0 10 (fX6_kind a0 x1 x2 s0) hxL_kind (qI (fun v1 s2 =>
  uJ s2 a3 0 (v1.toInt64) (fun s3 =>
  some (.inl (some (.int 0)), s3))))
theorem hXL_kind : ∀ z ∈ hxL_kind, ax_HX RL 5 5 cL_kind z := List.forall_mem_cons.mpr ⟨⟨by decide, by decide, kw_1074, by decide, 1, 2, Or.inl ⟨4, dL_kind_13, by decide, rfl⟩, dL_kind_15, rfl, dL_kind_16⟩, List.forall_mem_cons.mpr ⟨⟨by decide, by decide, kw_1068, by decide, 2, 2, Or.inl ⟨4, dL_kind_17, by decide, rfl⟩, dL_kind_19, rfl, dL_kind_20⟩, List.forall_mem_cons.mpr ⟨⟨by decide, by decide, kw_1069, by decide, 3, 2, Or.inl ⟨4, dL_kind_21, by decide, rfl⟩, dL_kind_23, rfl, dL_kind_24⟩, fun _ h => absurd h List.not_mem_nil⟩⟩⟩
set_option maxHeartbeats 4000000 in
theorem oL_kind {Γ : CX} (C : OKC Γ cL_kind RL (some (.int))) (T : (cx_c Γ).exceptionTable.toList = tableOf (hxL_kind.map fun z => z.2.2)) (hn : cx_nL Γ = 5) (hR : cx_fr Γ = 8 ∧ cx_lo Γ = 133) (hin : (cx_meth Γ).name = yL_kind.name) : ∀ (a0 : Nat) (x1 : Int32) (x2 : Int32) (a3 : Nat) (s0 : AS), OK Γ 0 [(0, .ref a0), (1, .int x1), (2, .int x2), (3, .ref a3)] [] (fL_kind a0 x1 x2 a3 s0) s0 := by
  intro a0 x1 x2 a3 s0
  unfold fL_kind
  refine ok_aload_n C 3 dL_kind_0 rfl ?_
  refine ok_iconst C (v := 0) dL_kind_1 (by decide) ?_
  refine ok_aload_n C 0 dL_kind_2 rfl ?_
  refine ok_iload_n C 1 dL_kind_3 rfl ?_
  refine ok_iload_n C 2 dL_kind_4 rfl ?_
  refine ok_callVH C hxL_kind (by rw [hn]; exact hXL_kind) T [.int x1, .int x2] (F := fX6_kind a0 x1 x2) (ctX6_kind (C.2.2.2.2.2.2.2.2.1) a0 x1 x2) vlL_35 viX6_kind rfl rfl (by decide) rfl (by rw [hR.1, hR.2]; decide) (Nat.le_of_ble_eq_true rfl) dL_kind_5 (ok_qI fun v1 s2 => ?_)
  refine ok_i2l C dL_kind_8 ?_
  refine ok_last C dL_kind_9 (fun s3 _ => ?_)
  refine ok_goto C 25 dL_kind_10 (by decide) ?_
  refine ok_iconst C (v := 0) dL_kind_25 (by decide) ?_
  exact ok_ireturn C dL_kind_26
theorem ctL_kind {l : Launch} (hl : l.stackTraces = false) {D : va_G} {dA : Nat → ClassId} {B0 : Nat} (a0 : Nat) (x1 : Int32) (x2 : Int32) (a3 : Nat) : Ct l D dA B0 yL_kind (.codeWith yL_kind cL_kind 5 (some (.int)) [(0, 10, 13, 20), (0, 10, 17, 13), (0, 10, 21, 15)] :: ax_ALL) 8 133 [.ref a0, .int x1, .int x2, .ref a3] (fL_kind a0 x1 x2 a3) :=
  Ct.ofW hl (by decide +kernel) (Nat.le_of_ble_eq_true rfl) fun Γ C _ _ _ _ e5 e6 e7 T hin => oL_kind C T e5 ⟨e6, e7⟩ hin a0 x1 x2 a3 _
/-! ChaseLockerLaw.kindOf(LChaseLocker;ZI[J)I -/
def hxL_kindOf : List (String × Int32 × (Nat × Nat × Nat × Nat)) := [("java/lang/IllegalStateException", 1, (0, 10, 13, 20))]
def fL_kindOf (a0 : Nat) (x1 : Int32) (x2 : Int32) (a3 : Nat) (s0 : AS) : Option AR :=
  cH s0 a0 10 (fX6_kindOf a0 x1 x2 s0) hxL_kindOf (qI (fun v1 s2 =>
  uJ s2 a3 0 (v1.toInt64) (fun s3 =>
  some (.inl (some (.int 0)), s3))))
theorem hXL_kindOf : ∀ z ∈ hxL_kindOf, ax_HX RL 5 5 cL_kindOf z := List.forall_mem_cons.mpr ⟨⟨by decide, by decide, kw_1074, by decide, 1, 2, Or.inl ⟨4, dL_kindOf_13, by decide, rfl⟩, dL_kindOf_15, rfl, dL_kindOf_16⟩, fun _ h => absurd h List.not_mem_nil⟩
set_option maxHeartbeats 4000000 in
theorem oL_kindOf {Γ : CX} (C : OKC Γ cL_kindOf RL (some (.int))) (T : (cx_c Γ).exceptionTable.toList = tableOf (hxL_kindOf.map fun z => z.2.2)) (hn : cx_nL Γ = 5) (hR : cx_fr Γ = 8 ∧ cx_lo Γ = 132) (hin : (cx_meth Γ).name = yL_kindOf.name) : ∀ (a0 : Nat) (x1 : Int32) (x2 : Int32) (a3 : Nat) (s0 : AS), OK Γ 0 [(0, .ref a0), (1, .int x1), (2, .int x2), (3, .ref a3)] [] (fL_kindOf a0 x1 x2 a3 s0) s0 := by
  intro a0 x1 x2 a3 s0
  unfold fL_kindOf
  refine ok_aload_n C 3 dL_kindOf_0 rfl ?_
  refine ok_iconst C (v := 0) dL_kindOf_1 (by decide) ?_
  refine ok_aload_n C 0 dL_kindOf_2 rfl ?_
  refine ok_iload_n C 1 dL_kindOf_3 rfl ?_
  refine ok_iload_n C 2 dL_kindOf_4 rfl ?_
  refine ok_callVH C hxL_kindOf (by rw [hn]; exact hXL_kindOf) T [.int x1, .int x2] (F := fX6_kindOf a0 x1 x2) (ctX6_kindOf (C.2.2.2.2.2.2.2.2.1) a0 x1 x2) vlL_38 viX6_kindOf rfl rfl (by decide) rfl (by rw [hR.1, hR.2]; decide) (Nat.le_of_ble_eq_true rfl) dL_kindOf_5 (ok_qI fun v1 s2 => ?_)
  refine ok_i2l C dL_kindOf_8 ?_
  refine ok_last C dL_kindOf_9 (fun s3 _ => ?_)
  refine ok_goto C 17 dL_kindOf_10 (by decide) ?_
  refine ok_iconst C (v := 0) dL_kindOf_17 (by decide) ?_
  exact ok_ireturn C dL_kindOf_18
theorem ctL_kindOf {l : Launch} (hl : l.stackTraces = false) {D : va_G} {dA : Nat → ClassId} {B0 : Nat} (a0 : Nat) (x1 : Int32) (x2 : Int32) (a3 : Nat) : Ct l D dA B0 yL_kindOf (.codeWith yL_kindOf cL_kindOf 5 (some (.int)) [(0, 10, 13, 20)] :: ax_ALL) 8 132 [.ref a0, .int x1, .int x2, .ref a3] (fL_kindOf a0 x1 x2 a3) :=
  Ct.ofW hl (by decide +kernel) (Nat.le_of_ble_eq_true rfl) fun Γ C _ _ _ _ e5 e6 e7 T hin => oL_kindOf C T e5 ⟨e6, e7⟩ hin a0 x1 x2 a3 _
/-! ChaseLockerLaw.isTight(LChaseLocker;I[J)I -/
def hxL_isTight : List (String × Int32 × (Nat × Nat × Nat × Nat)) := [("java/lang/IllegalStateException", 1, (0, 16, 19, 20)), ("java/lang/IndexOutOfBoundsException", 2, (0, 16, 22, 13))]
def fL_isTight_15  (t0 : Nat) (t1 : Int32) (t2 : Int64) (s0 : AS) : Option AR :=
  uJ s0 t0 t1 t2 (fun s1 =>
  some (.inl (some (.int 0)), s1))
def fL_isTight (a0 : Nat) (x1 : Int32) (a2 : Nat) (s0 : AS) : Option AR :=
  cH s0 a0 10 (fX6_isTight a0 x1 s0) hxL_isTight (qI (fun v1 s2 =>
  if v1 = 0 then (
    fL_isTight_15 a2 0 0 s2)
  else (
    fL_isTight_15 a2 0 1 s2)))
theorem hXL_isTight : ∀ z ∈ hxL_isTight, ax_HX RL 4 4 cL_isTight z := List.forall_mem_cons.mpr ⟨⟨by decide, by decide, kw_1074, by decide, 1, 1, Or.inr ⟨3, dL_isTight_19, by decide, rfl⟩, dL_isTight_20, rfl, dL_isTight_21⟩, List.forall_mem_cons.mpr ⟨⟨by decide, by decide, kw_1068, by decide, 2, 1, Or.inr ⟨3, dL_isTight_22, by decide, rfl⟩, dL_isTight_23, rfl, dL_isTight_24⟩, fun _ h => absurd h List.not_mem_nil⟩⟩
set_option maxHeartbeats 4000000 in
theorem oL_isTight_15 {Γ : CX} (C : OKC Γ cL_isTight RL (some (.int))) (T : (cx_c Γ).exceptionTable.toList = tableOf (hxL_isTight.map fun z => z.2.2)) (hn : cx_nL Γ = 4) (hR : cx_fr Γ = 9 ∧ cx_lo Γ = 152) (hin : (cx_meth Γ).name = yL_isTight.name) : ∀ (t0 : Nat) (t1 : Int32) (t2 : Int64) (s0 : AS), OK Γ 15 [] [.long t2, .int t1, .ref t0] (fL_isTight_15  t0 t1 t2 s0) s0 := by
  intro t0 t1 t2 s0
  unfold fL_isTight_15
  refine ok_last C dL_isTight_15 (fun s1 _ => ?_)
  refine ok_goto C 25 dL_isTight_16 (by decide) ?_
  refine ok_iconst C (v := 0) dL_isTight_25 (by decide) ?_
  exact ok_ireturn C dL_isTight_26
set_option maxHeartbeats 4000000 in
theorem oL_isTight {Γ : CX} (C : OKC Γ cL_isTight RL (some (.int))) (T : (cx_c Γ).exceptionTable.toList = tableOf (hxL_isTight.map fun z => z.2.2)) (hn : cx_nL Γ = 4) (hR : cx_fr Γ = 9 ∧ cx_lo Γ = 152) (hin : (cx_meth Γ).name = yL_isTight.name) : ∀ (a0 : Nat) (x1 : Int32) (a2 : Nat) (s0 : AS), OK Γ 0 [(0, .ref a0), (1, .int x1), (2, .ref a2)] [] (fL_isTight a0 x1 a2 s0) s0 := by
  intro a0 x1 a2 s0
  unfold fL_isTight
  refine ok_aload_n C 2 dL_isTight_0 rfl ?_
  refine ok_iconst C (v := 0) dL_isTight_1 (by decide) ?_
  refine ok_aload_n C 0 dL_isTight_2 rfl ?_
  refine ok_iload_n C 1 dL_isTight_3 rfl ?_
  refine ok_callVH C hxL_isTight (by rw [hn]; exact hXL_isTight) T [.int x1] (F := fX6_isTight a0 x1) (ctX6_isTight (C.2.2.2.2.2.2.2.2.1) a0 x1) vlL_42 viX6_isTight rfl rfl (by decide) rfl (by rw [hR.1, hR.2]; decide) (Nat.le_of_ble_eq_true rfl) dL_isTight_4 (ok_qI fun v1 s2 => ?_)
  refine ok_if_eq C 14 dL_isTight_7 (by decide) ?_ ?_
  · refine ok_lconst C (v := 0) dL_isTight_14 (by decide) ?_
    refine OK.sub (lv' := []) [] rfl ?_
    exact oL_isTight_15 C T hn hR hin a2 0 0 s2
  · refine ok_lconst C (v := 1) dL_isTight_10 (by decide) ?_
    refine ok_goto C 15 dL_isTight_11 (by decide) ?_
    refine OK.sub (lv' := []) [] rfl ?_
    exact oL_isTight_15 C T hn hR hin a2 0 1 s2
theorem ctL_isTight {l : Launch} (hl : l.stackTraces = false) {D : va_G} {dA : Nat → ClassId} {B0 : Nat} (a0 : Nat) (x1 : Int32) (a2 : Nat) : Ct l D dA B0 yL_isTight (.codeWith yL_isTight cL_isTight 4 (some (.int)) [(0, 16, 19, 20), (0, 16, 22, 13)] :: ax_ALL) 9 152 [.ref a0, .int x1, .ref a2] (fL_isTight a0 x1 a2) :=
  Ct.ofW hl (by decide +kernel) (Nat.le_of_ble_eq_true rfl) fun Γ C _ _ _ _ e5 e6 e7 T hin => oL_isTight C T e5 ⟨e6, e7⟩ hin a0 x1 a2 _
/-! ChaseLockerLaw.widestGap(LChaseLocker;[J)I -/
def hxL_widestGap : List (String × Int32 × (Nat × Nat × Nat × Nat)) := [("java/lang/IllegalStateException", 1, (0, 8, 11, 20))]
def fL_widestGap (a0 : Nat) (a1 : Nat) (s0 : AS) : Option AR :=
  cH s0 a0 10 (fX6_widestGap a0 s0) hxL_widestGap (qI (fun v1 s2 =>
  uJ s2 a1 0 (v1.toInt64) (fun s3 =>
  some (.inl (some (.int 0)), s3))))
theorem hXL_widestGap : ∀ z ∈ hxL_widestGap, ax_HX RL 3 3 cL_widestGap z := List.forall_mem_cons.mpr ⟨⟨by decide, by decide, kw_1074, by decide, 1, 1, Or.inr ⟨2, dL_widestGap_11, by decide, rfl⟩, dL_widestGap_12, rfl, dL_widestGap_13⟩, fun _ h => absurd h List.not_mem_nil⟩
set_option maxHeartbeats 4000000 in
theorem oL_widestGap {Γ : CX} (C : OKC Γ cL_widestGap RL (some (.int))) (T : (cx_c Γ).exceptionTable.toList = tableOf (hxL_widestGap.map fun z => z.2.2)) (hn : cx_nL Γ = 3) (hR : cx_fr Γ = 8 ∧ cx_lo Γ = 132) (hin : (cx_meth Γ).name = yL_widestGap.name) : ∀ (a0 : Nat) (a1 : Nat) (s0 : AS), OK Γ 0 [(0, .ref a0), (1, .ref a1)] [] (fL_widestGap a0 a1 s0) s0 := by
  intro a0 a1 s0
  unfold fL_widestGap
  refine ok_aload_n C 1 dL_widestGap_0 rfl ?_
  refine ok_iconst C (v := 0) dL_widestGap_1 (by decide) ?_
  refine ok_aload_n C 0 dL_widestGap_2 rfl ?_
  refine ok_callVH C hxL_widestGap (by rw [hn]; exact hXL_widestGap) T [] (F := fX6_widestGap a0) (ctX6_widestGap (C.2.2.2.2.2.2.2.2.1) a0) vlL_46 viX6_widestGap rfl rfl (by decide) rfl (by rw [hR.1, hR.2]; decide) (Nat.le_of_ble_eq_true rfl) dL_widestGap_3 (ok_qI fun v1 s2 => ?_)
  refine ok_i2l C dL_widestGap_6 ?_
  refine ok_last C dL_widestGap_7 (fun s3 _ => ?_)
  refine ok_goto C 14 dL_widestGap_8 (by decide) ?_
  refine ok_iconst C (v := 0) dL_widestGap_14 (by decide) ?_
  exact ok_ireturn C dL_widestGap_15
theorem ctL_widestGap {l : Launch} (hl : l.stackTraces = false) {D : va_G} {dA : Nat → ClassId} {B0 : Nat} (a0 : Nat) (a1 : Nat) : Ct l D dA B0 yL_widestGap (.codeWith yL_widestGap cL_widestGap 3 (some (.int)) [(0, 8, 11, 20)] :: ax_ALL) 8 132 [.ref a0, .ref a1] (fL_widestGap a0 a1) :=
  Ct.ofW hl (by decide +kernel) (Nat.le_of_ble_eq_true rfl) fun Γ C _ _ _ _ e5 e6 e7 T hin => oL_widestGap C T e5 ⟨e6, e7⟩ hin a0 a1 _
/-! ChaseLockerLaw.loosest(LChaseLocker;[J)I -/
def hxL_loosest : List (String × Int32 × (Nat × Nat × Nat × Nat)) := [("java/lang/IllegalStateException", 1, (0, 8, 11, 20))]
def fL_loosest (a0 : Nat) (a1 : Nat) (s0 : AS) : Option AR :=
  cH s0 a0 10 (fX6_loosest a0 s0) hxL_loosest (qI (fun v1 s2 =>
  uJ s2 a1 0 (v1.toInt64) (fun s3 =>
  some (.inl (some (.int 0)), s3))))
theorem hXL_loosest : ∀ z ∈ hxL_loosest, ax_HX RL 3 3 cL_loosest z := List.forall_mem_cons.mpr ⟨⟨by decide, by decide, kw_1074, by decide, 1, 1, Or.inr ⟨2, dL_loosest_11, by decide, rfl⟩, dL_loosest_12, rfl, dL_loosest_13⟩, fun _ h => absurd h List.not_mem_nil⟩
set_option maxHeartbeats 4000000 in
theorem oL_loosest {Γ : CX} (C : OKC Γ cL_loosest RL (some (.int))) (T : (cx_c Γ).exceptionTable.toList = tableOf (hxL_loosest.map fun z => z.2.2)) (hn : cx_nL Γ = 3) (hR : cx_fr Γ = 8 ∧ cx_lo Γ = 147) (hin : (cx_meth Γ).name = yL_loosest.name) : ∀ (a0 : Nat) (a1 : Nat) (s0 : AS), OK Γ 0 [(0, .ref a0), (1, .ref a1)] [] (fL_loosest a0 a1 s0) s0 := by
  intro a0 a1 s0
  unfold fL_loosest
  refine ok_aload_n C 1 dL_loosest_0 rfl ?_
  refine ok_iconst C (v := 0) dL_loosest_1 (by decide) ?_
  refine ok_aload_n C 0 dL_loosest_2 rfl ?_
  refine ok_callVH C hxL_loosest (by rw [hn]; exact hXL_loosest) T [] (F := fX6_loosest a0) (ctX6_loosest (C.2.2.2.2.2.2.2.2.1) a0) vlL_50 viX6_loosest rfl rfl (by decide) rfl (by rw [hR.1, hR.2]; decide) (Nat.le_of_ble_eq_true rfl) dL_loosest_3 (ok_qI fun v1 s2 => ?_)
  refine ok_i2l C dL_loosest_6 ?_
  refine ok_last C dL_loosest_7 (fun s3 _ => ?_)
  refine ok_goto C 14 dL_loosest_8 (by decide) ?_
  refine ok_iconst C (v := 0) dL_loosest_14 (by decide) ?_
  exact ok_ireturn C dL_loosest_15
theorem ctL_loosest {l : Launch} (hl : l.stackTraces = false) {D : va_G} {dA : Nat → ClassId} {B0 : Nat} (a0 : Nat) (a1 : Nat) : Ct l D dA B0 yL_loosest (.codeWith yL_loosest cL_loosest 3 (some (.int)) [(0, 8, 11, 20)] :: ax_ALL) 8 147 [.ref a0, .ref a1] (fL_loosest a0 a1) :=
  Ct.ofW hl (by decide +kernel) (Nat.le_of_ble_eq_true rfl) fun Γ C _ _ _ _ e5 e6 e7 T hin => oL_loosest C T e5 ⟨e6, e7⟩ hin a0 a1 _
/-! ChaseLockerLaw.longestLeft(LChaseLocker;[J)I -/
def hxL_longestLeft : List (String × Int32 × (Nat × Nat × Nat × Nat)) := [("java/lang/IllegalStateException", 1, (0, 8, 11, 20))]
def fL_longestLeft (a0 : Nat) (a1 : Nat) (s0 : AS) : Option AR :=
  cH s0 a0 10 (fX6_longestLeft a0 s0) hxL_longestLeft (qI (fun v1 s2 =>
  uJ s2 a1 0 (v1.toInt64) (fun s3 =>
  some (.inl (some (.int 0)), s3))))
theorem hXL_longestLeft : ∀ z ∈ hxL_longestLeft, ax_HX RL 3 3 cL_longestLeft z := List.forall_mem_cons.mpr ⟨⟨by decide, by decide, kw_1074, by decide, 1, 1, Or.inr ⟨2, dL_longestLeft_11, by decide, rfl⟩, dL_longestLeft_12, rfl, dL_longestLeft_13⟩, fun _ h => absurd h List.not_mem_nil⟩
set_option maxHeartbeats 4000000 in
theorem oL_longestLeft {Γ : CX} (C : OKC Γ cL_longestLeft RL (some (.int))) (T : (cx_c Γ).exceptionTable.toList = tableOf (hxL_longestLeft.map fun z => z.2.2)) (hn : cx_nL Γ = 3) (hR : cx_fr Γ = 8 ∧ cx_lo Γ = 132) (hin : (cx_meth Γ).name = yL_longestLeft.name) : ∀ (a0 : Nat) (a1 : Nat) (s0 : AS), OK Γ 0 [(0, .ref a0), (1, .ref a1)] [] (fL_longestLeft a0 a1 s0) s0 := by
  intro a0 a1 s0
  unfold fL_longestLeft
  refine ok_aload_n C 1 dL_longestLeft_0 rfl ?_
  refine ok_iconst C (v := 0) dL_longestLeft_1 (by decide) ?_
  refine ok_aload_n C 0 dL_longestLeft_2 rfl ?_
  refine ok_callVH C hxL_longestLeft (by rw [hn]; exact hXL_longestLeft) T [] (F := fX6_longestLeft a0) (ctX6_longestLeft (C.2.2.2.2.2.2.2.2.1) a0) vlL_53 viX6_longestLeft rfl rfl (by decide) rfl (by rw [hR.1, hR.2]; decide) (Nat.le_of_ble_eq_true rfl) dL_longestLeft_3 (ok_qI fun v1 s2 => ?_)
  refine ok_i2l C dL_longestLeft_6 ?_
  refine ok_last C dL_longestLeft_7 (fun s3 _ => ?_)
  refine ok_goto C 14 dL_longestLeft_8 (by decide) ?_
  refine ok_iconst C (v := 0) dL_longestLeft_14 (by decide) ?_
  exact ok_ireturn C dL_longestLeft_15
theorem ctL_longestLeft {l : Launch} (hl : l.stackTraces = false) {D : va_G} {dA : Nat → ClassId} {B0 : Nat} (a0 : Nat) (a1 : Nat) : Ct l D dA B0 yL_longestLeft (.codeWith yL_longestLeft cL_longestLeft 3 (some (.int)) [(0, 8, 11, 20)] :: ax_ALL) 8 132 [.ref a0, .ref a1] (fL_longestLeft a0 a1) :=
  Ct.ofW hl (by decide +kernel) (Nat.le_of_ble_eq_true rfl) fun Γ C _ _ _ _ e5 e6 e7 T hin => oL_longestLeft C T e5 ⟨e6, e7⟩ hin a0 a1 _
/-! ChaseLockerLaw.lengthLeft(LChaseLocker;[J)I -/
def hxL_lengthLeft : List (String × Int32 × (Nat × Nat × Nat × Nat)) := [("java/lang/IllegalStateException", 1, (0, 8, 11, 20))]
def fL_lengthLeft (a0 : Nat) (a1 : Nat) (s0 : AS) : Option AR :=
  cH s0 a0 10 (fX6_lengthLeft a0 s0) hxL_lengthLeft (qI (fun v1 s2 =>
  uJ s2 a1 0 (v1.toInt64) (fun s3 =>
  some (.inl (some (.int 0)), s3))))
theorem hXL_lengthLeft : ∀ z ∈ hxL_lengthLeft, ax_HX RL 3 3 cL_lengthLeft z := List.forall_mem_cons.mpr ⟨⟨by decide, by decide, kw_1074, by decide, 1, 1, Or.inr ⟨2, dL_lengthLeft_11, by decide, rfl⟩, dL_lengthLeft_12, rfl, dL_lengthLeft_13⟩, fun _ h => absurd h List.not_mem_nil⟩
set_option maxHeartbeats 4000000 in
theorem oL_lengthLeft {Γ : CX} (C : OKC Γ cL_lengthLeft RL (some (.int))) (T : (cx_c Γ).exceptionTable.toList = tableOf (hxL_lengthLeft.map fun z => z.2.2)) (hn : cx_nL Γ = 3) (hR : cx_fr Γ = 8 ∧ cx_lo Γ = 132) (hin : (cx_meth Γ).name = yL_lengthLeft.name) : ∀ (a0 : Nat) (a1 : Nat) (s0 : AS), OK Γ 0 [(0, .ref a0), (1, .ref a1)] [] (fL_lengthLeft a0 a1 s0) s0 := by
  intro a0 a1 s0
  unfold fL_lengthLeft
  refine ok_aload_n C 1 dL_lengthLeft_0 rfl ?_
  refine ok_iconst C (v := 0) dL_lengthLeft_1 (by decide) ?_
  refine ok_aload_n C 0 dL_lengthLeft_2 rfl ?_
  refine ok_callVH C hxL_lengthLeft (by rw [hn]; exact hXL_lengthLeft) T [] (F := fX6_lengthLeft a0) (ctX6_lengthLeft (C.2.2.2.2.2.2.2.2.1) a0) vlL_56 viX6_lengthLeft rfl rfl (by decide) rfl (by rw [hR.1, hR.2]; decide) (Nat.le_of_ble_eq_true rfl) dL_lengthLeft_3 (ok_qI fun v1 s2 => ?_)
  refine ok_i2l C dL_lengthLeft_6 ?_
  refine ok_last C dL_lengthLeft_7 (fun s3 _ => ?_)
  refine ok_goto C 14 dL_lengthLeft_8 (by decide) ?_
  refine ok_iconst C (v := 0) dL_lengthLeft_14 (by decide) ?_
  exact ok_ireturn C dL_lengthLeft_15
theorem ctL_lengthLeft {l : Launch} (hl : l.stackTraces = false) {D : va_G} {dA : Nat → ClassId} {B0 : Nat} (a0 : Nat) (a1 : Nat) : Ct l D dA B0 yL_lengthLeft (.codeWith yL_lengthLeft cL_lengthLeft 3 (some (.int)) [(0, 8, 11, 20)] :: ax_ALL) 8 132 [.ref a0, .ref a1] (fL_lengthLeft a0 a1) :=
  Ct.ofW hl (by decide +kernel) (Nat.le_of_ble_eq_true rfl) fun Γ C _ _ _ _ e5 e6 e7 T hin => oL_lengthLeft C T e5 ⟨e6, e7⟩ hin a0 a1 _
/-! ChaseLockerLaw.meanGap(LChaseLocker;[D)I -/
def hxL_meanGap : List (String × Int32 × (Nat × Nat × Nat × Nat)) := [("java/lang/IllegalStateException", 1, (0, 7, 10, 20))]
def fL_meanGap (a0 : Nat) (a1 : Nat) (s0 : AS) : Option AR :=
  cH s0 a0 10 (fX6_meanGap a0 s0) hxL_meanGap (qD (fun d1 s2 =>
  uD s2 a1 0 d1 (fun s3 =>
  some (.inl (some (.int 0)), s3))))
theorem hXL_meanGap : ∀ z ∈ hxL_meanGap, ax_HX RL 3 3 cL_meanGap z := List.forall_mem_cons.mpr ⟨⟨by decide, by decide, kw_1074, by decide, 1, 1, Or.inr ⟨2, dL_meanGap_10, by decide, rfl⟩, dL_meanGap_11, rfl, dL_meanGap_12⟩, fun _ h => absurd h List.not_mem_nil⟩
set_option maxHeartbeats 4000000 in
theorem oL_meanGap {Γ : CX} (C : OKC Γ cL_meanGap RL (some (.int))) (T : (cx_c Γ).exceptionTable.toList = tableOf (hxL_meanGap.map fun z => z.2.2)) (hn : cx_nL Γ = 3) (hR : cx_fr Γ = 8 ∧ cx_lo Γ = 132) (hin : (cx_meth Γ).name = yL_meanGap.name) : ∀ (a0 : Nat) (a1 : Nat) (s0 : AS), OK Γ 0 [(0, .ref a0), (1, .ref a1)] [] (fL_meanGap a0 a1 s0) s0 := by
  intro a0 a1 s0
  unfold fL_meanGap
  refine ok_aload_n C 1 dL_meanGap_0 rfl ?_
  refine ok_iconst C (v := 0) dL_meanGap_1 (by decide) ?_
  refine ok_aload_n C 0 dL_meanGap_2 rfl ?_
  refine ok_callVH C hxL_meanGap (by rw [hn]; exact hXL_meanGap) T [] (F := fX6_meanGap a0) (ctX6_meanGap (C.2.2.2.2.2.2.2.2.1) a0) vlL_59 viX6_meanGap rfl rfl (by decide) rfl (by rw [hR.1, hR.2]; decide) (Nat.le_of_ble_eq_true rfl) dL_meanGap_3 (ok_qD fun d1 s2 => ?_)
  refine ok_dast C dL_meanGap_6 (fun s3 => ?_)
  refine ok_goto C 13 dL_meanGap_7 (by decide) ?_
  refine ok_iconst C (v := 0) dL_meanGap_13 (by decide) ?_
  exact ok_ireturn C dL_meanGap_14
theorem ctL_meanGap {l : Launch} (hl : l.stackTraces = false) {D : va_G} {dA : Nat → ClassId} {B0 : Nat} (a0 : Nat) (a1 : Nat) : Ct l D dA B0 yL_meanGap (.codeWith yL_meanGap cL_meanGap 3 (some (.int)) [(0, 7, 10, 20)] :: ax_ALL) 8 132 [.ref a0, .ref a1] (fL_meanGap a0 a1) :=
  Ct.ofW hl (by decide +kernel) (Nat.le_of_ble_eq_true rfl) fun Γ C _ _ _ _ e5 e6 e7 T hin => oL_meanGap C T e5 ⟨e6, e7⟩ hin a0 a1 _
/-! ChaseLockerLaw.woodShare(LChaseLocker;[D)I -/
def hxL_woodShare : List (String × Int32 × (Nat × Nat × Nat × Nat)) := [("java/lang/IllegalStateException", 1, (0, 8, 11, 20))]
def fL_woodShare (a0 : Nat) (a1 : Nat) (s0 : AS) : Option AR :=
  cH s0 a0 10 (fX6_woodShare a0 s0) hxL_woodShare (qF (fun y1 s2 =>
  if FP.f2d y1 &&& 0x7fffffffffffffff ≤ 0x7ff0000000000000 then (
  uD s2 a1 0 (FP.f2d y1) (fun s3 =>
  some (.inl (some (.int 0)), s3))) else none))
theorem hXL_woodShare : ∀ z ∈ hxL_woodShare, ax_HX RL 3 3 cL_woodShare z := List.forall_mem_cons.mpr ⟨⟨by decide, by decide, kw_1074, by decide, 1, 1, Or.inr ⟨2, dL_woodShare_11, by decide, rfl⟩, dL_woodShare_12, rfl, dL_woodShare_13⟩, fun _ h => absurd h List.not_mem_nil⟩
set_option maxHeartbeats 4000000 in
theorem oL_woodShare {Γ : CX} (C : OKC Γ cL_woodShare RL (some (.int))) (T : (cx_c Γ).exceptionTable.toList = tableOf (hxL_woodShare.map fun z => z.2.2)) (hn : cx_nL Γ = 3) (hR : cx_fr Γ = 8 ∧ cx_lo Γ = 132) (hin : (cx_meth Γ).name = yL_woodShare.name) : ∀ (a0 : Nat) (a1 : Nat) (s0 : AS), OK Γ 0 [(0, .ref a0), (1, .ref a1)] [] (fL_woodShare a0 a1 s0) s0 := by
  intro a0 a1 s0
  unfold fL_woodShare
  refine ok_aload_n C 1 dL_woodShare_0 rfl ?_
  refine ok_iconst C (v := 0) dL_woodShare_1 (by decide) ?_
  refine ok_aload_n C 0 dL_woodShare_2 rfl ?_
  refine ok_callVH C hxL_woodShare (by rw [hn]; exact hXL_woodShare) T [] (F := fX6_woodShare a0) (ctX6_woodShare (C.2.2.2.2.2.2.2.2.1) a0) vlL_63 viX6_woodShare rfl rfl (by decide) rfl (by rw [hR.1, hR.2]; decide) (Nat.le_of_ble_eq_true rfl) dL_woodShare_3 (ok_qF fun y1 s2 => ?_)
  refine ok_f2d C dL_woodShare_6 ?_
  refine ok_dast C dL_woodShare_7 (fun s3 => ?_)
  refine ok_goto C 14 dL_woodShare_8 (by decide) ?_
  refine ok_iconst C (v := 0) dL_woodShare_14 (by decide) ?_
  exact ok_ireturn C dL_woodShare_15
theorem ctL_woodShare {l : Launch} (hl : l.stackTraces = false) {D : va_G} {dA : Nat → ClassId} {B0 : Nat} (a0 : Nat) (a1 : Nat) : Ct l D dA B0 yL_woodShare (.codeWith yL_woodShare cL_woodShare 3 (some (.int)) [(0, 8, 11, 20)] :: ax_ALL) 8 132 [.ref a0, .ref a1] (fL_woodShare a0 a1) :=
  Ct.ofW hl (by decide +kernel) (Nat.le_of_ble_eq_true rfl) fun Γ C _ _ _ _ e5 e6 e7 T hin => oL_woodShare C T e5 ⟨e6, e7⟩ hin a0 a1 _
/-! ChaseLockerLaw.goodShare(LChaseLocker;[D)I -/
def hxL_goodShare : List (String × Int32 × (Nat × Nat × Nat × Nat)) := [("java/lang/IllegalStateException", 1, (0, 8, 11, 20))]
def fL_goodShare (a0 : Nat) (a1 : Nat) (s0 : AS) : Option AR :=
  cH s0 a0 10 (fX6_goodShare a0 s0) hxL_goodShare (qF (fun y1 s2 =>
  if FP.f2d y1 &&& 0x7fffffffffffffff ≤ 0x7ff0000000000000 then (
  uD s2 a1 0 (FP.f2d y1) (fun s3 =>
  some (.inl (some (.int 0)), s3))) else none))
theorem hXL_goodShare : ∀ z ∈ hxL_goodShare, ax_HX RL 3 3 cL_goodShare z := List.forall_mem_cons.mpr ⟨⟨by decide, by decide, kw_1074, by decide, 1, 1, Or.inr ⟨2, dL_goodShare_11, by decide, rfl⟩, dL_goodShare_12, rfl, dL_goodShare_13⟩, fun _ h => absurd h List.not_mem_nil⟩
set_option maxHeartbeats 4000000 in
theorem oL_goodShare {Γ : CX} (C : OKC Γ cL_goodShare RL (some (.int))) (T : (cx_c Γ).exceptionTable.toList = tableOf (hxL_goodShare.map fun z => z.2.2)) (hn : cx_nL Γ = 3) (hR : cx_fr Γ = 8 ∧ cx_lo Γ = 130) (hin : (cx_meth Γ).name = yL_goodShare.name) : ∀ (a0 : Nat) (a1 : Nat) (s0 : AS), OK Γ 0 [(0, .ref a0), (1, .ref a1)] [] (fL_goodShare a0 a1 s0) s0 := by
  intro a0 a1 s0
  unfold fL_goodShare
  refine ok_aload_n C 1 dL_goodShare_0 rfl ?_
  refine ok_iconst C (v := 0) dL_goodShare_1 (by decide) ?_
  refine ok_aload_n C 0 dL_goodShare_2 rfl ?_
  refine ok_callVH C hxL_goodShare (by rw [hn]; exact hXL_goodShare) T [] (F := fX6_goodShare a0) (ctX6_goodShare (C.2.2.2.2.2.2.2.2.1) a0) vlL_67 viX6_goodShare rfl rfl (by decide) rfl (by rw [hR.1, hR.2]; decide) (Nat.le_of_ble_eq_true rfl) dL_goodShare_3 (ok_qF fun y1 s2 => ?_)
  refine ok_f2d C dL_goodShare_6 ?_
  refine ok_dast C dL_goodShare_7 (fun s3 => ?_)
  refine ok_goto C 14 dL_goodShare_8 (by decide) ?_
  refine ok_iconst C (v := 0) dL_goodShare_14 (by decide) ?_
  exact ok_ireturn C dL_goodShare_15
theorem ctL_goodShare {l : Launch} (hl : l.stackTraces = false) {D : va_G} {dA : Nat → ClassId} {B0 : Nat} (a0 : Nat) (a1 : Nat) : Ct l D dA B0 yL_goodShare (.codeWith yL_goodShare cL_goodShare 3 (some (.int)) [(0, 8, 11, 20)] :: ax_ALL) 8 130 [.ref a0, .ref a1] (fL_goodShare a0 a1) :=
  Ct.ofW hl (by decide +kernel) (Nat.le_of_ble_eq_true rfl) fun Γ C _ _ _ _ e5 e6 e7 T hin => oL_goodShare C T e5 ⟨e6, e7⟩ hin a0 a1 _
/-! ChaseLockerLaw.choice(LChaseLocker;II[J)I -/
def hxL_choice : List (String × Int32 × (Nat × Nat × Nat × Nat)) := [("java/lang/IllegalStateException", 1, (0, 10, 13, 20)), ("java/lang/IndexOutOfBoundsException", 2, (0, 10, 17, 13)), ("java/lang/IllegalArgumentException", 3, (0, 10, 21, 15))]
def fL_choice (a0 : Nat) (x1 : Int32) (x2 : Int32) (a3 : Nat) (s0 : AS) : Option AR :=
  cH s0 a0 10 (fX6_choice a0 x1 x2 s0) hxL_choice (qI (fun v1 s2 =>
  uJ s2 a3 0 (v1.toInt64) (fun s3 =>
  some (.inl (some (.int 0)), s3))))
theorem hXL_choice : ∀ z ∈ hxL_choice, ax_HX RL 5 5 cL_choice z := List.forall_mem_cons.mpr ⟨⟨by decide, by decide, kw_1074, by decide, 1, 2, Or.inl ⟨4, dL_choice_13, by decide, rfl⟩, dL_choice_15, rfl, dL_choice_16⟩, List.forall_mem_cons.mpr ⟨⟨by decide, by decide, kw_1068, by decide, 2, 2, Or.inl ⟨4, dL_choice_17, by decide, rfl⟩, dL_choice_19, rfl, dL_choice_20⟩, List.forall_mem_cons.mpr ⟨⟨by decide, by decide, kw_1069, by decide, 3, 2, Or.inl ⟨4, dL_choice_21, by decide, rfl⟩, dL_choice_23, rfl, dL_choice_24⟩, fun _ h => absurd h List.not_mem_nil⟩⟩⟩
set_option maxHeartbeats 4000000 in
theorem oL_choice {Γ : CX} (C : OKC Γ cL_choice RL (some (.int))) (T : (cx_c Γ).exceptionTable.toList = tableOf (hxL_choice.map fun z => z.2.2)) (hn : cx_nL Γ = 5) (hR : cx_fr Γ = 9 ∧ cx_lo Γ = 203) (hin : (cx_meth Γ).name = yL_choice.name) : ∀ (a0 : Nat) (x1 : Int32) (x2 : Int32) (a3 : Nat) (s0 : AS), OK Γ 0 [(0, .ref a0), (1, .int x1), (2, .int x2), (3, .ref a3)] [] (fL_choice a0 x1 x2 a3 s0) s0 := by
  intro a0 x1 x2 a3 s0
  unfold fL_choice
  refine ok_aload_n C 3 dL_choice_0 rfl ?_
  refine ok_iconst C (v := 0) dL_choice_1 (by decide) ?_
  refine ok_aload_n C 0 dL_choice_2 rfl ?_
  refine ok_iload_n C 1 dL_choice_3 rfl ?_
  refine ok_iload_n C 2 dL_choice_4 rfl ?_
  refine ok_callVH C hxL_choice (by rw [hn]; exact hXL_choice) T [.int x1, .int x2] (F := fX6_choice a0 x1 x2) (ctX6_choice (C.2.2.2.2.2.2.2.2.1) a0 x1 x2) vlL_70 viX6_choice rfl rfl (by decide) rfl (by rw [hR.1, hR.2]; decide) (Nat.le_of_ble_eq_true rfl) dL_choice_5 (ok_qI fun v1 s2 => ?_)
  refine ok_i2l C dL_choice_8 ?_
  refine ok_last C dL_choice_9 (fun s3 _ => ?_)
  refine ok_goto C 25 dL_choice_10 (by decide) ?_
  refine ok_iconst C (v := 0) dL_choice_25 (by decide) ?_
  exact ok_ireturn C dL_choice_26
theorem ctL_choice {l : Launch} (hl : l.stackTraces = false) {D : va_G} {dA : Nat → ClassId} {B0 : Nat} (a0 : Nat) (x1 : Int32) (x2 : Int32) (a3 : Nat) : Ct l D dA B0 yL_choice (.codeWith yL_choice cL_choice 5 (some (.int)) [(0, 10, 13, 20), (0, 10, 17, 13), (0, 10, 21, 15)] :: ax_ALL) 9 203 [.ref a0, .int x1, .int x2, .ref a3] (fL_choice a0 x1 x2 a3) :=
  Ct.ofW hl (by decide +kernel) (Nat.le_of_ble_eq_true rfl) fun Γ C _ _ _ _ e5 e6 e7 T hin => oL_choice C T e5 ⟨e6, e7⟩ hin a0 x1 x2 a3 _
/-! ChaseLockerLaw.chosen(LChaseLocker;II[J)I -/
def hxL_chosen : List (String × Int32 × (Nat × Nat × Nat × Nat)) := [("java/lang/IllegalStateException", 1, (0, 10, 13, 20)), ("java/lang/IndexOutOfBoundsException", 2, (0, 10, 17, 13))]
def fL_chosen (a0 : Nat) (x1 : Int32) (x2 : Int32) (a3 : Nat) (s0 : AS) : Option AR :=
  cH s0 a0 10 (fX6_chosen a0 x1 x2 s0) hxL_chosen (qI (fun v1 s2 =>
  uJ s2 a3 0 (v1.toInt64) (fun s3 =>
  some (.inl (some (.int 0)), s3))))
theorem hXL_chosen : ∀ z ∈ hxL_chosen, ax_HX RL 5 5 cL_chosen z := List.forall_mem_cons.mpr ⟨⟨by decide, by decide, kw_1074, by decide, 1, 2, Or.inl ⟨4, dL_chosen_13, by decide, rfl⟩, dL_chosen_15, rfl, dL_chosen_16⟩, List.forall_mem_cons.mpr ⟨⟨by decide, by decide, kw_1068, by decide, 2, 2, Or.inl ⟨4, dL_chosen_17, by decide, rfl⟩, dL_chosen_19, rfl, dL_chosen_20⟩, fun _ h => absurd h List.not_mem_nil⟩⟩
set_option maxHeartbeats 4000000 in
theorem oL_chosen {Γ : CX} (C : OKC Γ cL_chosen RL (some (.int))) (T : (cx_c Γ).exceptionTable.toList = tableOf (hxL_chosen.map fun z => z.2.2)) (hn : cx_nL Γ = 5) (hR : cx_fr Γ = 9 ∧ cx_lo Γ = 203) (hin : (cx_meth Γ).name = yL_chosen.name) : ∀ (a0 : Nat) (x1 : Int32) (x2 : Int32) (a3 : Nat) (s0 : AS), OK Γ 0 [(0, .ref a0), (1, .int x1), (2, .int x2), (3, .ref a3)] [] (fL_chosen a0 x1 x2 a3 s0) s0 := by
  intro a0 x1 x2 a3 s0
  unfold fL_chosen
  refine ok_aload_n C 3 dL_chosen_0 rfl ?_
  refine ok_iconst C (v := 0) dL_chosen_1 (by decide) ?_
  refine ok_aload_n C 0 dL_chosen_2 rfl ?_
  refine ok_iload_n C 1 dL_chosen_3 rfl ?_
  refine ok_iload_n C 2 dL_chosen_4 rfl ?_
  refine ok_callVH C hxL_chosen (by rw [hn]; exact hXL_chosen) T [.int x1, .int x2] (F := fX6_chosen a0 x1 x2) (ctX6_chosen (C.2.2.2.2.2.2.2.2.1) a0 x1 x2) vlL_73 viX6_chosen rfl rfl (by decide) rfl (by rw [hR.1, hR.2]; decide) (Nat.le_of_ble_eq_true rfl) dL_chosen_5 (ok_qI fun v1 s2 => ?_)
  refine ok_i2l C dL_chosen_8 ?_
  refine ok_last C dL_chosen_9 (fun s3 _ => ?_)
  refine ok_goto C 21 dL_chosen_10 (by decide) ?_
  refine ok_iconst C (v := 0) dL_chosen_21 (by decide) ?_
  exact ok_ireturn C dL_chosen_22
theorem ctL_chosen {l : Launch} (hl : l.stackTraces = false) {D : va_G} {dA : Nat → ClassId} {B0 : Nat} (a0 : Nat) (x1 : Int32) (x2 : Int32) (a3 : Nat) : Ct l D dA B0 yL_chosen (.codeWith yL_chosen cL_chosen 5 (some (.int)) [(0, 10, 13, 20), (0, 10, 17, 13)] :: ax_ALL) 9 203 [.ref a0, .int x1, .int x2, .ref a3] (fL_chosen a0 x1 x2 a3) :=
  Ct.ofW hl (by decide +kernel) (Nat.le_of_ble_eq_true rfl) fun Γ C _ _ _ _ e5 e6 e7 T hin => oL_chosen C T e5 ⟨e6, e7⟩ hin a0 x1 x2 a3 _
/-! ChaseLockerLaw.ways(LChaseLocker;I[J)I -/
def hxL_ways : List (String × Int32 × (Nat × Nat × Nat × Nat)) := [("java/lang/IllegalStateException", 1, (0, 9, 12, 20)), ("java/lang/IndexOutOfBoundsException", 2, (0, 9, 15, 13))]
def fL_ways (a0 : Nat) (x1 : Int32) (a2 : Nat) (s0 : AS) : Option AR :=
  cH s0 a0 10 (fX6_ways a0 x1 s0) hxL_ways (qI (fun v1 s2 =>
  uJ s2 a2 0 (v1.toInt64) (fun s3 =>
  some (.inl (some (.int 0)), s3))))
theorem hXL_ways : ∀ z ∈ hxL_ways, ax_HX RL 4 4 cL_ways z := List.forall_mem_cons.mpr ⟨⟨by decide, by decide, kw_1074, by decide, 1, 1, Or.inr ⟨3, dL_ways_12, by decide, rfl⟩, dL_ways_13, rfl, dL_ways_14⟩, List.forall_mem_cons.mpr ⟨⟨by decide, by decide, kw_1068, by decide, 2, 1, Or.inr ⟨3, dL_ways_15, by decide, rfl⟩, dL_ways_16, rfl, dL_ways_17⟩, fun _ h => absurd h List.not_mem_nil⟩⟩
set_option maxHeartbeats 4000000 in
theorem oL_ways {Γ : CX} (C : OKC Γ cL_ways RL (some (.int))) (T : (cx_c Γ).exceptionTable.toList = tableOf (hxL_ways.map fun z => z.2.2)) (hn : cx_nL Γ = 4) (hR : cx_fr Γ = 9 ∧ cx_lo Γ = 169) (hin : (cx_meth Γ).name = yL_ways.name) : ∀ (a0 : Nat) (x1 : Int32) (a2 : Nat) (s0 : AS), OK Γ 0 [(0, .ref a0), (1, .int x1), (2, .ref a2)] [] (fL_ways a0 x1 a2 s0) s0 := by
  intro a0 x1 a2 s0
  unfold fL_ways
  refine ok_aload_n C 2 dL_ways_0 rfl ?_
  refine ok_iconst C (v := 0) dL_ways_1 (by decide) ?_
  refine ok_aload_n C 0 dL_ways_2 rfl ?_
  refine ok_iload_n C 1 dL_ways_3 rfl ?_
  refine ok_callVH C hxL_ways (by rw [hn]; exact hXL_ways) T [.int x1] (F := fX6_ways a0 x1) (ctX6_ways (C.2.2.2.2.2.2.2.2.1) a0 x1) vlL_76 viX6_ways rfl rfl (by decide) rfl (by rw [hR.1, hR.2]; decide) (Nat.le_of_ble_eq_true rfl) dL_ways_4 (ok_qI fun v1 s2 => ?_)
  refine ok_i2l C dL_ways_7 ?_
  refine ok_last C dL_ways_8 (fun s3 _ => ?_)
  refine ok_goto C 18 dL_ways_9 (by decide) ?_
  refine ok_iconst C (v := 0) dL_ways_18 (by decide) ?_
  exact ok_ireturn C dL_ways_19
theorem ctL_ways {l : Launch} (hl : l.stackTraces = false) {D : va_G} {dA : Nat → ClassId} {B0 : Nat} (a0 : Nat) (x1 : Int32) (a2 : Nat) : Ct l D dA B0 yL_ways (.codeWith yL_ways cL_ways 4 (some (.int)) [(0, 9, 12, 20), (0, 9, 15, 13)] :: ax_ALL) 9 169 [.ref a0, .int x1, .ref a2] (fL_ways a0 x1 a2) :=
  Ct.ofW hl (by decide +kernel) (Nat.le_of_ble_eq_true rfl) fun Γ C _ _ _ _ e5 e6 e7 T hin => oL_ways C T e5 ⟨e6, e7⟩ hin a0 x1 a2 _
/-! ChaseLockerLaw.nearest(LChaseLocker;I[J)I -/
def hxL_nearest : List (String × Int32 × (Nat × Nat × Nat × Nat)) := [("java/lang/IllegalStateException", 1, (0, 9, 12, 20)), ("java/lang/IndexOutOfBoundsException", 2, (0, 9, 15, 13))]
def fL_nearest (a0 : Nat) (x1 : Int32) (a2 : Nat) (s0 : AS) : Option AR :=
  cH s0 a0 10 (fX6_nearest a0 x1 s0) hxL_nearest (qI (fun v1 s2 =>
  uJ s2 a2 0 (v1.toInt64) (fun s3 =>
  some (.inl (some (.int 0)), s3))))
theorem hXL_nearest : ∀ z ∈ hxL_nearest, ax_HX RL 4 4 cL_nearest z := List.forall_mem_cons.mpr ⟨⟨by decide, by decide, kw_1074, by decide, 1, 1, Or.inr ⟨3, dL_nearest_12, by decide, rfl⟩, dL_nearest_13, rfl, dL_nearest_14⟩, List.forall_mem_cons.mpr ⟨⟨by decide, by decide, kw_1068, by decide, 2, 1, Or.inr ⟨3, dL_nearest_15, by decide, rfl⟩, dL_nearest_16, rfl, dL_nearest_17⟩, fun _ h => absurd h List.not_mem_nil⟩⟩
set_option maxHeartbeats 4000000 in
theorem oL_nearest {Γ : CX} (C : OKC Γ cL_nearest RL (some (.int))) (T : (cx_c Γ).exceptionTable.toList = tableOf (hxL_nearest.map fun z => z.2.2)) (hn : cx_nL Γ = 4) (hR : cx_fr Γ = 9 ∧ cx_lo Γ = 183) (hin : (cx_meth Γ).name = yL_nearest.name) : ∀ (a0 : Nat) (x1 : Int32) (a2 : Nat) (s0 : AS), OK Γ 0 [(0, .ref a0), (1, .int x1), (2, .ref a2)] [] (fL_nearest a0 x1 a2 s0) s0 := by
  intro a0 x1 a2 s0
  unfold fL_nearest
  refine ok_aload_n C 2 dL_nearest_0 rfl ?_
  refine ok_iconst C (v := 0) dL_nearest_1 (by decide) ?_
  refine ok_aload_n C 0 dL_nearest_2 rfl ?_
  refine ok_iload_n C 1 dL_nearest_3 rfl ?_
  refine ok_callVH C hxL_nearest (by rw [hn]; exact hXL_nearest) T [.int x1] (F := fX6_nearest a0 x1) (ctX6_nearest (C.2.2.2.2.2.2.2.2.1) a0 x1) vlL_79 viX6_nearest rfl rfl (by decide) rfl (by rw [hR.1, hR.2]; decide) (Nat.le_of_ble_eq_true rfl) dL_nearest_4 (ok_qI fun v1 s2 => ?_)
  refine ok_i2l C dL_nearest_7 ?_
  refine ok_last C dL_nearest_8 (fun s3 _ => ?_)
  refine ok_goto C 18 dL_nearest_9 (by decide) ?_
  refine ok_iconst C (v := 0) dL_nearest_18 (by decide) ?_
  exact ok_ireturn C dL_nearest_19
theorem ctL_nearest {l : Launch} (hl : l.stackTraces = false) {D : va_G} {dA : Nat → ClassId} {B0 : Nat} (a0 : Nat) (x1 : Int32) (a2 : Nat) : Ct l D dA B0 yL_nearest (.codeWith yL_nearest cL_nearest 4 (some (.int)) [(0, 9, 12, 20), (0, 9, 15, 13)] :: ax_ALL) 9 183 [.ref a0, .int x1, .ref a2] (fL_nearest a0 x1 a2) :=
  Ct.ofW hl (by decide +kernel) (Nat.le_of_ble_eq_true rfl) fun Γ C _ _ _ _ e5 e6 e7 T hin => oL_nearest C T e5 ⟨e6, e7⟩ hin a0 x1 a2 _
/-! ChaseLockerLaw.fewestAt(LChaseLocker;II[J)I -/
def hxL_fewestAt : List (String × Int32 × (Nat × Nat × Nat × Nat)) := [("java/lang/IllegalStateException", 1, (0, 10, 13, 20)), ("java/lang/IndexOutOfBoundsException", 2, (0, 10, 17, 13)), ("java/lang/IllegalArgumentException", 3, (0, 10, 21, 15))]
def fL_fewestAt (a0 : Nat) (x1 : Int32) (x2 : Int32) (a3 : Nat) (s0 : AS) : Option AR :=
  cH s0 a0 10 (fX6_fewestAt a0 x1 x2 s0) hxL_fewestAt (qI (fun v1 s2 =>
  uJ s2 a3 0 (v1.toInt64) (fun s3 =>
  some (.inl (some (.int 0)), s3))))
theorem hXL_fewestAt : ∀ z ∈ hxL_fewestAt, ax_HX RL 5 5 cL_fewestAt z := List.forall_mem_cons.mpr ⟨⟨by decide, by decide, kw_1074, by decide, 1, 2, Or.inl ⟨4, dL_fewestAt_13, by decide, rfl⟩, dL_fewestAt_15, rfl, dL_fewestAt_16⟩, List.forall_mem_cons.mpr ⟨⟨by decide, by decide, kw_1068, by decide, 2, 2, Or.inl ⟨4, dL_fewestAt_17, by decide, rfl⟩, dL_fewestAt_19, rfl, dL_fewestAt_20⟩, List.forall_mem_cons.mpr ⟨⟨by decide, by decide, kw_1069, by decide, 3, 2, Or.inl ⟨4, dL_fewestAt_21, by decide, rfl⟩, dL_fewestAt_23, rfl, dL_fewestAt_24⟩, fun _ h => absurd h List.not_mem_nil⟩⟩⟩
set_option maxHeartbeats 4000000 in
theorem oL_fewestAt {Γ : CX} (C : OKC Γ cL_fewestAt RL (some (.int))) (T : (cx_c Γ).exceptionTable.toList = tableOf (hxL_fewestAt.map fun z => z.2.2)) (hn : cx_nL Γ = 5) (hR : cx_fr Γ = 9 ∧ cx_lo Γ = 181) (hin : (cx_meth Γ).name = yL_fewestAt.name) : ∀ (a0 : Nat) (x1 : Int32) (x2 : Int32) (a3 : Nat) (s0 : AS), OK Γ 0 [(0, .ref a0), (1, .int x1), (2, .int x2), (3, .ref a3)] [] (fL_fewestAt a0 x1 x2 a3 s0) s0 := by
  intro a0 x1 x2 a3 s0
  unfold fL_fewestAt
  refine ok_aload_n C 3 dL_fewestAt_0 rfl ?_
  refine ok_iconst C (v := 0) dL_fewestAt_1 (by decide) ?_
  refine ok_aload_n C 0 dL_fewestAt_2 rfl ?_
  refine ok_iload_n C 1 dL_fewestAt_3 rfl ?_
  refine ok_iload_n C 2 dL_fewestAt_4 rfl ?_
  refine ok_callVH C hxL_fewestAt (by rw [hn]; exact hXL_fewestAt) T [.int x1, .int x2] (F := fX6_fewestAt a0 x1 x2) (ctX6_fewestAt (C.2.2.2.2.2.2.2.2.1) a0 x1 x2) vlL_82 viX6_fewestAt rfl rfl (by decide) rfl (by rw [hR.1, hR.2]; decide) (Nat.le_of_ble_eq_true rfl) dL_fewestAt_5 (ok_qI fun v1 s2 => ?_)
  refine ok_i2l C dL_fewestAt_8 ?_
  refine ok_last C dL_fewestAt_9 (fun s3 _ => ?_)
  refine ok_goto C 25 dL_fewestAt_10 (by decide) ?_
  refine ok_iconst C (v := 0) dL_fewestAt_25 (by decide) ?_
  exact ok_ireturn C dL_fewestAt_26
theorem ctL_fewestAt {l : Launch} (hl : l.stackTraces = false) {D : va_G} {dA : Nat → ClassId} {B0 : Nat} (a0 : Nat) (x1 : Int32) (x2 : Int32) (a3 : Nat) : Ct l D dA B0 yL_fewestAt (.codeWith yL_fewestAt cL_fewestAt 5 (some (.int)) [(0, 10, 13, 20), (0, 10, 17, 13), (0, 10, 21, 15)] :: ax_ALL) 9 181 [.ref a0, .int x1, .int x2, .ref a3] (fL_fewestAt a0 x1 x2 a3) :=
  Ct.ofW hl (by decide +kernel) (Nat.le_of_ble_eq_true rfl) fun Γ C _ _ _ _ e5 e6 e7 T hin => oL_fewestAt C T e5 ⟨e6, e7⟩ hin a0 x1 x2 a3 _
/-! ChaseLockerLaw.rowFor(LChaseLocker;I[J)I -/
def hxL_rowFor : List (String × Int32 × (Nat × Nat × Nat × Nat)) := [("java/lang/IllegalStateException", 1, (0, 9, 12, 20)), ("java/lang/IllegalArgumentException", 2, (0, 9, 15, 15))]
def fL_rowFor (a0 : Nat) (x1 : Int32) (a2 : Nat) (s0 : AS) : Option AR :=
  cH s0 a0 10 (fX6_rowFor a0 x1 s0) hxL_rowFor (qI (fun v1 s2 =>
  uJ s2 a2 0 (v1.toInt64) (fun s3 =>
  some (.inl (some (.int 0)), s3))))
theorem hXL_rowFor : ∀ z ∈ hxL_rowFor, ax_HX RL 4 4 cL_rowFor z := List.forall_mem_cons.mpr ⟨⟨by decide, by decide, kw_1074, by decide, 1, 1, Or.inr ⟨3, dL_rowFor_12, by decide, rfl⟩, dL_rowFor_13, rfl, dL_rowFor_14⟩, List.forall_mem_cons.mpr ⟨⟨by decide, by decide, kw_1069, by decide, 2, 1, Or.inr ⟨3, dL_rowFor_15, by decide, rfl⟩, dL_rowFor_16, rfl, dL_rowFor_17⟩, fun _ h => absurd h List.not_mem_nil⟩⟩
set_option maxHeartbeats 4000000 in
theorem oL_rowFor {Γ : CX} (C : OKC Γ cL_rowFor RL (some (.int))) (T : (cx_c Γ).exceptionTable.toList = tableOf (hxL_rowFor.map fun z => z.2.2)) (hn : cx_nL Γ = 4) (hR : cx_fr Γ = 8 ∧ cx_lo Γ = 183) (hin : (cx_meth Γ).name = yL_rowFor.name) : ∀ (a0 : Nat) (x1 : Int32) (a2 : Nat) (s0 : AS), OK Γ 0 [(0, .ref a0), (1, .int x1), (2, .ref a2)] [] (fL_rowFor a0 x1 a2 s0) s0 := by
  intro a0 x1 a2 s0
  unfold fL_rowFor
  refine ok_aload_n C 2 dL_rowFor_0 rfl ?_
  refine ok_iconst C (v := 0) dL_rowFor_1 (by decide) ?_
  refine ok_aload_n C 0 dL_rowFor_2 rfl ?_
  refine ok_iload_n C 1 dL_rowFor_3 rfl ?_
  refine ok_callVH C hxL_rowFor (by rw [hn]; exact hXL_rowFor) T [.int x1] (F := fX6_rowFor a0 x1) (ctX6_rowFor (C.2.2.2.2.2.2.2.2.1) a0 x1) vlL_85 viX6_rowFor rfl rfl (by decide) rfl (by rw [hR.1, hR.2]; decide) (Nat.le_of_ble_eq_true rfl) dL_rowFor_4 (ok_qI fun v1 s2 => ?_)
  refine ok_i2l C dL_rowFor_7 ?_
  refine ok_last C dL_rowFor_8 (fun s3 _ => ?_)
  refine ok_goto C 18 dL_rowFor_9 (by decide) ?_
  refine ok_iconst C (v := 0) dL_rowFor_18 (by decide) ?_
  exact ok_ireturn C dL_rowFor_19
theorem ctL_rowFor {l : Launch} (hl : l.stackTraces = false) {D : va_G} {dA : Nat → ClassId} {B0 : Nat} (a0 : Nat) (x1 : Int32) (a2 : Nat) : Ct l D dA B0 yL_rowFor (.codeWith yL_rowFor cL_rowFor 4 (some (.int)) [(0, 9, 12, 20), (0, 9, 15, 15)] :: ax_ALL) 8 183 [.ref a0, .int x1, .ref a2] (fL_rowFor a0 x1 a2) :=
  Ct.ofW hl (by decide +kernel) (Nat.le_of_ble_eq_true rfl) fun Γ C _ _ _ _ e5 e6 e7 T hin => oL_rowFor C T e5 ⟨e6, e7⟩ hin a0 x1 a2 _
/-! ChaseLockerLaw.missing(LChaseLocker;I[J)I -/
def hxL_missing : List (String × Int32 × (Nat × Nat × Nat × Nat)) := [("java/lang/IllegalStateException", 1, (0, 9, 12, 20)), ("java/lang/IndexOutOfBoundsException", 2, (0, 9, 15, 13))]
def fL_missing (a0 : Nat) (x1 : Int32) (a2 : Nat) (s0 : AS) : Option AR :=
  cH s0 a0 10 (fX6_missing a0 x1 s0) hxL_missing (qI (fun v1 s2 =>
  uJ s2 a2 0 (v1.toInt64) (fun s3 =>
  some (.inl (some (.int 0)), s3))))
theorem hXL_missing : ∀ z ∈ hxL_missing, ax_HX RL 4 4 cL_missing z := List.forall_mem_cons.mpr ⟨⟨by decide, by decide, kw_1074, by decide, 1, 1, Or.inr ⟨3, dL_missing_12, by decide, rfl⟩, dL_missing_13, rfl, dL_missing_14⟩, List.forall_mem_cons.mpr ⟨⟨by decide, by decide, kw_1068, by decide, 2, 1, Or.inr ⟨3, dL_missing_15, by decide, rfl⟩, dL_missing_16, rfl, dL_missing_17⟩, fun _ h => absurd h List.not_mem_nil⟩⟩
set_option maxHeartbeats 4000000 in
theorem oL_missing {Γ : CX} (C : OKC Γ cL_missing RL (some (.int))) (T : (cx_c Γ).exceptionTable.toList = tableOf (hxL_missing.map fun z => z.2.2)) (hn : cx_nL Γ = 4) (hR : cx_fr Γ = 9 ∧ cx_lo Γ = 202) (hin : (cx_meth Γ).name = yL_missing.name) : ∀ (a0 : Nat) (x1 : Int32) (a2 : Nat) (s0 : AS), OK Γ 0 [(0, .ref a0), (1, .int x1), (2, .ref a2)] [] (fL_missing a0 x1 a2 s0) s0 := by
  intro a0 x1 a2 s0
  unfold fL_missing
  refine ok_aload_n C 2 dL_missing_0 rfl ?_
  refine ok_iconst C (v := 0) dL_missing_1 (by decide) ?_
  refine ok_aload_n C 0 dL_missing_2 rfl ?_
  refine ok_iload_n C 1 dL_missing_3 rfl ?_
  refine ok_callVH C hxL_missing (by rw [hn]; exact hXL_missing) T [.int x1] (F := fX6_missing a0 x1) (ctX6_missing (C.2.2.2.2.2.2.2.2.1) a0 x1) vlL_88 viX6_missing rfl rfl (by decide) rfl (by rw [hR.1, hR.2]; decide) (Nat.le_of_ble_eq_true rfl) dL_missing_4 (ok_qI fun v1 s2 => ?_)
  refine ok_i2l C dL_missing_7 ?_
  refine ok_last C dL_missing_8 (fun s3 _ => ?_)
  refine ok_goto C 18 dL_missing_9 (by decide) ?_
  refine ok_iconst C (v := 0) dL_missing_18 (by decide) ?_
  exact ok_ireturn C dL_missing_19
theorem ctL_missing {l : Launch} (hl : l.stackTraces = false) {D : va_G} {dA : Nat → ClassId} {B0 : Nat} (a0 : Nat) (x1 : Int32) (a2 : Nat) : Ct l D dA B0 yL_missing (.codeWith yL_missing cL_missing 4 (some (.int)) [(0, 9, 12, 20), (0, 9, 15, 13)] :: ax_ALL) 9 202 [.ref a0, .int x1, .ref a2] (fL_missing a0 x1 a2) :=
  Ct.ofW hl (by decide +kernel) (Nat.le_of_ble_eq_true rfl) fun Γ C _ _ _ _ e5 e6 e7 T hin => oL_missing C T e5 ⟨e6, e7⟩ hin a0 x1 a2 _
/-! ChaseLockerLaw.canPut(LChaseLocker;II[J)I -/
def hxL_canPut : List (String × Int32 × (Nat × Nat × Nat × Nat)) := [("java/lang/IllegalStateException", 1, (0, 17, 20, 20)), ("java/lang/IndexOutOfBoundsException", 2, (0, 17, 24, 13))]
def fL_canPut_16  (t0 : Nat) (t1 : Int32) (t2 : Int64) (s0 : AS) : Option AR :=
  uJ s0 t0 t1 t2 (fun s1 =>
  some (.inl (some (.int 0)), s1))
def fL_canPut (a0 : Nat) (x1 : Int32) (x2 : Int32) (a3 : Nat) (s0 : AS) : Option AR :=
  cH s0 a0 10 (fX6_canPut a0 x1 x2 s0) hxL_canPut (qI (fun v1 s2 =>
  if v1 = 0 then (
    fL_canPut_16 a3 0 0 s2)
  else (
    fL_canPut_16 a3 0 1 s2)))
theorem hXL_canPut : ∀ z ∈ hxL_canPut, ax_HX RL 5 5 cL_canPut z := List.forall_mem_cons.mpr ⟨⟨by decide, by decide, kw_1074, by decide, 1, 2, Or.inl ⟨4, dL_canPut_20, by decide, rfl⟩, dL_canPut_22, rfl, dL_canPut_23⟩, List.forall_mem_cons.mpr ⟨⟨by decide, by decide, kw_1068, by decide, 2, 2, Or.inl ⟨4, dL_canPut_24, by decide, rfl⟩, dL_canPut_26, rfl, dL_canPut_27⟩, fun _ h => absurd h List.not_mem_nil⟩⟩
set_option maxHeartbeats 4000000 in
theorem oL_canPut_16 {Γ : CX} (C : OKC Γ cL_canPut RL (some (.int))) (T : (cx_c Γ).exceptionTable.toList = tableOf (hxL_canPut.map fun z => z.2.2)) (hn : cx_nL Γ = 5) (hR : cx_fr Γ = 9 ∧ cx_lo Γ = 154) (hin : (cx_meth Γ).name = yL_canPut.name) : ∀ (t0 : Nat) (t1 : Int32) (t2 : Int64) (s0 : AS), OK Γ 16 [] [.long t2, .int t1, .ref t0] (fL_canPut_16  t0 t1 t2 s0) s0 := by
  intro t0 t1 t2 s0
  unfold fL_canPut_16
  refine ok_last C dL_canPut_16 (fun s1 _ => ?_)
  refine ok_goto C 28 dL_canPut_17 (by decide) ?_
  refine ok_iconst C (v := 0) dL_canPut_28 (by decide) ?_
  exact ok_ireturn C dL_canPut_29
set_option maxHeartbeats 4000000 in
theorem oL_canPut {Γ : CX} (C : OKC Γ cL_canPut RL (some (.int))) (T : (cx_c Γ).exceptionTable.toList = tableOf (hxL_canPut.map fun z => z.2.2)) (hn : cx_nL Γ = 5) (hR : cx_fr Γ = 9 ∧ cx_lo Γ = 154) (hin : (cx_meth Γ).name = yL_canPut.name) : ∀ (a0 : Nat) (x1 : Int32) (x2 : Int32) (a3 : Nat) (s0 : AS), OK Γ 0 [(0, .ref a0), (1, .int x1), (2, .int x2), (3, .ref a3)] [] (fL_canPut a0 x1 x2 a3 s0) s0 := by
  intro a0 x1 x2 a3 s0
  unfold fL_canPut
  refine ok_aload_n C 3 dL_canPut_0 rfl ?_
  refine ok_iconst C (v := 0) dL_canPut_1 (by decide) ?_
  refine ok_aload_n C 0 dL_canPut_2 rfl ?_
  refine ok_iload_n C 1 dL_canPut_3 rfl ?_
  refine ok_iload_n C 2 dL_canPut_4 rfl ?_
  refine ok_callVH C hxL_canPut (by rw [hn]; exact hXL_canPut) T [.int x1, .int x2] (F := fX6_canPut a0 x1 x2) (ctX6_canPut (C.2.2.2.2.2.2.2.2.1) a0 x1 x2) vlL_91 viX6_canPut rfl rfl (by decide) rfl (by rw [hR.1, hR.2]; decide) (Nat.le_of_ble_eq_true rfl) dL_canPut_5 (ok_qI fun v1 s2 => ?_)
  refine ok_if_eq C 15 dL_canPut_8 (by decide) ?_ ?_
  · refine ok_lconst C (v := 0) dL_canPut_15 (by decide) ?_
    refine OK.sub (lv' := []) [] rfl ?_
    exact oL_canPut_16 C T hn hR hin a3 0 0 s2
  · refine ok_lconst C (v := 1) dL_canPut_11 (by decide) ?_
    refine ok_goto C 16 dL_canPut_12 (by decide) ?_
    refine OK.sub (lv' := []) [] rfl ?_
    exact oL_canPut_16 C T hn hR hin a3 0 1 s2
theorem ctL_canPut {l : Launch} (hl : l.stackTraces = false) {D : va_G} {dA : Nat → ClassId} {B0 : Nat} (a0 : Nat) (x1 : Int32) (x2 : Int32) (a3 : Nat) : Ct l D dA B0 yL_canPut (.codeWith yL_canPut cL_canPut 5 (some (.int)) [(0, 17, 20, 20), (0, 17, 24, 13)] :: ax_ALL) 9 154 [.ref a0, .int x1, .int x2, .ref a3] (fL_canPut a0 x1 x2 a3) :=
  Ct.ofW hl (by decide +kernel) (Nat.le_of_ble_eq_true rfl) fun Γ C _ _ _ _ e5 e6 e7 T hin => oL_canPut C T e5 ⟨e6, e7⟩ hin a0 x1 x2 a3 _
/-! ChaseLockerLaw.freshChoice(LChaseLocker;I[J)I -/
def hxL_freshChoice : List (String × Int32 × (Nat × Nat × Nat × Nat)) := [("java/lang/IllegalStateException", 1, (0, 9, 12, 20)), ("java/lang/IndexOutOfBoundsException", 2, (0, 9, 15, 13))]
def fL_freshChoice (a0 : Nat) (x1 : Int32) (a2 : Nat) (s0 : AS) : Option AR :=
  cH s0 a0 10 (fX6_freshChoice a0 x1 s0) hxL_freshChoice (qI (fun v1 s2 =>
  uJ s2 a2 0 (v1.toInt64) (fun s3 =>
  some (.inl (some (.int 0)), s3))))
theorem hXL_freshChoice : ∀ z ∈ hxL_freshChoice, ax_HX RL 4 4 cL_freshChoice z := List.forall_mem_cons.mpr ⟨⟨by decide, by decide, kw_1074, by decide, 1, 1, Or.inr ⟨3, dL_freshChoice_12, by decide, rfl⟩, dL_freshChoice_13, rfl, dL_freshChoice_14⟩, List.forall_mem_cons.mpr ⟨⟨by decide, by decide, kw_1068, by decide, 2, 1, Or.inr ⟨3, dL_freshChoice_15, by decide, rfl⟩, dL_freshChoice_16, rfl, dL_freshChoice_17⟩, fun _ h => absurd h List.not_mem_nil⟩⟩
set_option maxHeartbeats 4000000 in
theorem oL_freshChoice {Γ : CX} (C : OKC Γ cL_freshChoice RL (some (.int))) (T : (cx_c Γ).exceptionTable.toList = tableOf (hxL_freshChoice.map fun z => z.2.2)) (hn : cx_nL Γ = 4) (hR : cx_fr Γ = 9 ∧ cx_lo Γ = 201) (hin : (cx_meth Γ).name = yL_freshChoice.name) : ∀ (a0 : Nat) (x1 : Int32) (a2 : Nat) (s0 : AS), OK Γ 0 [(0, .ref a0), (1, .int x1), (2, .ref a2)] [] (fL_freshChoice a0 x1 a2 s0) s0 := by
  intro a0 x1 a2 s0
  unfold fL_freshChoice
  refine ok_aload_n C 2 dL_freshChoice_0 rfl ?_
  refine ok_iconst C (v := 0) dL_freshChoice_1 (by decide) ?_
  refine ok_aload_n C 0 dL_freshChoice_2 rfl ?_
  refine ok_iload_n C 1 dL_freshChoice_3 rfl ?_
  refine ok_callVH C hxL_freshChoice (by rw [hn]; exact hXL_freshChoice) T [.int x1] (F := fX6_freshChoice a0 x1) (ctX6_freshChoice (C.2.2.2.2.2.2.2.2.1) a0 x1) vlL_95 viX6_freshChoice rfl rfl (by decide) rfl (by rw [hR.1, hR.2]; decide) (Nat.le_of_ble_eq_true rfl) dL_freshChoice_4 (ok_qI fun v1 s2 => ?_)
  refine ok_i2l C dL_freshChoice_7 ?_
  refine ok_last C dL_freshChoice_8 (fun s3 _ => ?_)
  refine ok_goto C 18 dL_freshChoice_9 (by decide) ?_
  refine ok_iconst C (v := 0) dL_freshChoice_18 (by decide) ?_
  exact ok_ireturn C dL_freshChoice_19
theorem ctL_freshChoice {l : Launch} (hl : l.stackTraces = false) {D : va_G} {dA : Nat → ClassId} {B0 : Nat} (a0 : Nat) (x1 : Int32) (a2 : Nat) : Ct l D dA B0 yL_freshChoice (.codeWith yL_freshChoice cL_freshChoice 4 (some (.int)) [(0, 9, 12, 20), (0, 9, 15, 13)] :: ax_ALL) 9 201 [.ref a0, .int x1, .ref a2] (fL_freshChoice a0 x1 a2) :=
  Ct.ofW hl (by decide +kernel) (Nat.le_of_ble_eq_true rfl) fun Γ C _ _ _ _ e5 e6 e7 T hin => oL_freshChoice C T e5 ⟨e6, e7⟩ hin a0 x1 a2 _
/-! ChaseLockerLaw.fillable(LChaseLocker;I[J)I -/
def hxL_fillable : List (String × Int32 × (Nat × Nat × Nat × Nat)) := [("java/lang/IllegalStateException", 1, (0, 9, 12, 20)), ("java/lang/IllegalArgumentException", 2, (0, 9, 15, 15))]
def fL_fillable (a0 : Nat) (x1 : Int32) (a2 : Nat) (s0 : AS) : Option AR :=
  cH s0 a0 10 (fX6_fillable a0 x1 s0) hxL_fillable (qI (fun v1 s2 =>
  uJ s2 a2 0 (v1.toInt64) (fun s3 =>
  some (.inl (some (.int 0)), s3))))
theorem hXL_fillable : ∀ z ∈ hxL_fillable, ax_HX RL 4 4 cL_fillable z := List.forall_mem_cons.mpr ⟨⟨by decide, by decide, kw_1074, by decide, 1, 1, Or.inr ⟨3, dL_fillable_12, by decide, rfl⟩, dL_fillable_13, rfl, dL_fillable_14⟩, List.forall_mem_cons.mpr ⟨⟨by decide, by decide, kw_1069, by decide, 2, 1, Or.inr ⟨3, dL_fillable_15, by decide, rfl⟩, dL_fillable_16, rfl, dL_fillable_17⟩, fun _ h => absurd h List.not_mem_nil⟩⟩
set_option maxHeartbeats 4000000 in
theorem oL_fillable {Γ : CX} (C : OKC Γ cL_fillable RL (some (.int))) (T : (cx_c Γ).exceptionTable.toList = tableOf (hxL_fillable.map fun z => z.2.2)) (hn : cx_nL Γ = 4) (hR : cx_fr Γ = 8 ∧ cx_lo Γ = 181) (hin : (cx_meth Γ).name = yL_fillable.name) : ∀ (a0 : Nat) (x1 : Int32) (a2 : Nat) (s0 : AS), OK Γ 0 [(0, .ref a0), (1, .int x1), (2, .ref a2)] [] (fL_fillable a0 x1 a2 s0) s0 := by
  intro a0 x1 a2 s0
  unfold fL_fillable
  refine ok_aload_n C 2 dL_fillable_0 rfl ?_
  refine ok_iconst C (v := 0) dL_fillable_1 (by decide) ?_
  refine ok_aload_n C 0 dL_fillable_2 rfl ?_
  refine ok_iload_n C 1 dL_fillable_3 rfl ?_
  refine ok_callVH C hxL_fillable (by rw [hn]; exact hXL_fillable) T [.int x1] (F := fX6_fillable a0 x1) (ctX6_fillable (C.2.2.2.2.2.2.2.2.1) a0 x1) vlL_98 viX6_fillable rfl rfl (by decide) rfl (by rw [hR.1, hR.2]; decide) (Nat.le_of_ble_eq_true rfl) dL_fillable_4 (ok_qI fun v1 s2 => ?_)
  refine ok_i2l C dL_fillable_7 ?_
  refine ok_last C dL_fillable_8 (fun s3 _ => ?_)
  refine ok_goto C 18 dL_fillable_9 (by decide) ?_
  refine ok_iconst C (v := 0) dL_fillable_18 (by decide) ?_
  exact ok_ireturn C dL_fillable_19
theorem ctL_fillable {l : Launch} (hl : l.stackTraces = false) {D : va_G} {dA : Nat → ClassId} {B0 : Nat} (a0 : Nat) (x1 : Int32) (a2 : Nat) : Ct l D dA B0 yL_fillable (.codeWith yL_fillable cL_fillable 4 (some (.int)) [(0, 9, 12, 20), (0, 9, 15, 15)] :: ax_ALL) 8 181 [.ref a0, .int x1, .ref a2] (fL_fillable a0 x1 a2) :=
  Ct.ofW hl (by decide +kernel) (Nat.le_of_ble_eq_true rfl) fun Γ C _ _ _ _ e5 e6 e7 T hin => oL_fillable C T e5 ⟨e6, e7⟩ hin a0 x1 a2 _
/-! ChaseLockerLaw.fallsIn(LChaseLocker;IZ[J)I -/
def hxL_fallsIn : List (String × Int32 × (Nat × Nat × Nat × Nat)) := [("java/lang/IllegalStateException", 1, (0, 10, 13, 20)), ("java/lang/IndexOutOfBoundsException", 2, (0, 10, 17, 13))]
def fL_fallsIn (a0 : Nat) (x1 : Int32) (x2 : Int32) (a3 : Nat) (s0 : AS) : Option AR :=
  cH s0 a0 10 (fX6_fallsIn a0 x1 x2 s0) hxL_fallsIn (qI (fun v1 s2 =>
  uJ s2 a3 0 (v1.toInt64) (fun s3 =>
  some (.inl (some (.int 0)), s3))))
theorem hXL_fallsIn : ∀ z ∈ hxL_fallsIn, ax_HX RL 5 5 cL_fallsIn z := List.forall_mem_cons.mpr ⟨⟨by decide, by decide, kw_1074, by decide, 1, 2, Or.inl ⟨4, dL_fallsIn_13, by decide, rfl⟩, dL_fallsIn_15, rfl, dL_fallsIn_16⟩, List.forall_mem_cons.mpr ⟨⟨by decide, by decide, kw_1068, by decide, 2, 2, Or.inl ⟨4, dL_fallsIn_17, by decide, rfl⟩, dL_fallsIn_19, rfl, dL_fallsIn_20⟩, fun _ h => absurd h List.not_mem_nil⟩⟩
set_option maxHeartbeats 4000000 in
theorem oL_fallsIn {Γ : CX} (C : OKC Γ cL_fallsIn RL (some (.int))) (T : (cx_c Γ).exceptionTable.toList = tableOf (hxL_fallsIn.map fun z => z.2.2)) (hn : cx_nL Γ = 5) (hR : cx_fr Γ = 9 ∧ cx_lo Γ = 157) (hin : (cx_meth Γ).name = yL_fallsIn.name) : ∀ (a0 : Nat) (x1 : Int32) (x2 : Int32) (a3 : Nat) (s0 : AS), OK Γ 0 [(0, .ref a0), (1, .int x1), (2, .int x2), (3, .ref a3)] [] (fL_fallsIn a0 x1 x2 a3 s0) s0 := by
  intro a0 x1 x2 a3 s0
  unfold fL_fallsIn
  refine ok_aload_n C 3 dL_fallsIn_0 rfl ?_
  refine ok_iconst C (v := 0) dL_fallsIn_1 (by decide) ?_
  refine ok_aload_n C 0 dL_fallsIn_2 rfl ?_
  refine ok_iload_n C 1 dL_fallsIn_3 rfl ?_
  refine ok_iload_n C 2 dL_fallsIn_4 rfl ?_
  refine ok_callVH C hxL_fallsIn (by rw [hn]; exact hXL_fallsIn) T [.int x1, .int x2] (F := fX6_fallsIn a0 x1 x2) (ctX6_fallsIn (C.2.2.2.2.2.2.2.2.1) a0 x1 x2) vlL_101 viX6_fallsIn rfl rfl (by decide) rfl (by rw [hR.1, hR.2]; decide) (Nat.le_of_ble_eq_true rfl) dL_fallsIn_5 (ok_qI fun v1 s2 => ?_)
  refine ok_i2l C dL_fallsIn_8 ?_
  refine ok_last C dL_fallsIn_9 (fun s3 _ => ?_)
  refine ok_goto C 21 dL_fallsIn_10 (by decide) ?_
  refine ok_iconst C (v := 0) dL_fallsIn_21 (by decide) ?_
  exact ok_ireturn C dL_fallsIn_22
theorem ctL_fallsIn {l : Launch} (hl : l.stackTraces = false) {D : va_G} {dA : Nat → ClassId} {B0 : Nat} (a0 : Nat) (x1 : Int32) (x2 : Int32) (a3 : Nat) : Ct l D dA B0 yL_fallsIn (.codeWith yL_fallsIn cL_fallsIn 5 (some (.int)) [(0, 10, 13, 20), (0, 10, 17, 13)] :: ax_ALL) 9 157 [.ref a0, .int x1, .int x2, .ref a3] (fL_fallsIn a0 x1 x2 a3) :=
  Ct.ofW hl (by decide +kernel) (Nat.le_of_ble_eq_true rfl) fun Γ C _ _ _ _ e5 e6 e7 T hin => oL_fallsIn C T e5 ⟨e6, e7⟩ hin a0 x1 x2 a3 _
/-! ChaseLockerLaw.goodIn(LChaseLocker;I[J)I -/
def hxL_goodIn : List (String × Int32 × (Nat × Nat × Nat × Nat)) := [("java/lang/IllegalStateException", 1, (0, 9, 12, 20)), ("java/lang/IllegalArgumentException", 2, (0, 9, 15, 15))]
def fL_goodIn (a0 : Nat) (x1 : Int32) (a2 : Nat) (s0 : AS) : Option AR :=
  cH s0 a0 10 (fX6_goodIn a0 x1 s0) hxL_goodIn (qI (fun v1 s2 =>
  uJ s2 a2 0 (v1.toInt64) (fun s3 =>
  some (.inl (some (.int 0)), s3))))
theorem hXL_goodIn : ∀ z ∈ hxL_goodIn, ax_HX RL 4 4 cL_goodIn z := List.forall_mem_cons.mpr ⟨⟨by decide, by decide, kw_1074, by decide, 1, 1, Or.inr ⟨3, dL_goodIn_12, by decide, rfl⟩, dL_goodIn_13, rfl, dL_goodIn_14⟩, List.forall_mem_cons.mpr ⟨⟨by decide, by decide, kw_1069, by decide, 2, 1, Or.inr ⟨3, dL_goodIn_15, by decide, rfl⟩, dL_goodIn_16, rfl, dL_goodIn_17⟩, fun _ h => absurd h List.not_mem_nil⟩⟩
set_option maxHeartbeats 4000000 in
theorem oL_goodIn {Γ : CX} (C : OKC Γ cL_goodIn RL (some (.int))) (T : (cx_c Γ).exceptionTable.toList = tableOf (hxL_goodIn.map fun z => z.2.2)) (hn : cx_nL Γ = 4) (hR : cx_fr Γ = 8 ∧ cx_lo Γ = 214) (hin : (cx_meth Γ).name = yL_goodIn.name) : ∀ (a0 : Nat) (x1 : Int32) (a2 : Nat) (s0 : AS), OK Γ 0 [(0, .ref a0), (1, .int x1), (2, .ref a2)] [] (fL_goodIn a0 x1 a2 s0) s0 := by
  intro a0 x1 a2 s0
  unfold fL_goodIn
  refine ok_aload_n C 2 dL_goodIn_0 rfl ?_
  refine ok_iconst C (v := 0) dL_goodIn_1 (by decide) ?_
  refine ok_aload_n C 0 dL_goodIn_2 rfl ?_
  refine ok_iload_n C 1 dL_goodIn_3 rfl ?_
  refine ok_callVH C hxL_goodIn (by rw [hn]; exact hXL_goodIn) T [.int x1] (F := fX6_goodIn a0 x1) (ctX6_goodIn (C.2.2.2.2.2.2.2.2.1) a0 x1) vlL_105 viX6_goodIn rfl rfl (by decide) rfl (by rw [hR.1, hR.2]; decide) (Nat.le_of_ble_eq_true rfl) dL_goodIn_4 (ok_qI fun v1 s2 => ?_)
  refine ok_i2l C dL_goodIn_7 ?_
  refine ok_last C dL_goodIn_8 (fun s3 _ => ?_)
  refine ok_goto C 18 dL_goodIn_9 (by decide) ?_
  refine ok_iconst C (v := 0) dL_goodIn_18 (by decide) ?_
  exact ok_ireturn C dL_goodIn_19
theorem ctL_goodIn {l : Launch} (hl : l.stackTraces = false) {D : va_G} {dA : Nat → ClassId} {B0 : Nat} (a0 : Nat) (x1 : Int32) (a2 : Nat) : Ct l D dA B0 yL_goodIn (.codeWith yL_goodIn cL_goodIn 4 (some (.int)) [(0, 9, 12, 20), (0, 9, 15, 15)] :: ax_ALL) 8 214 [.ref a0, .int x1, .ref a2] (fL_goodIn a0 x1 a2) :=
  Ct.ofW hl (by decide +kernel) (Nat.le_of_ble_eq_true rfl) fun Γ C _ _ _ _ e5 e6 e7 T hin => oL_goodIn C T e5 ⟨e6, e7⟩ hin a0 x1 a2 _
/-! ChaseLockerLaw.lockable(LChaseLocker;[J)I -/
def hxL_lockable : List (String × Int32 × (Nat × Nat × Nat × Nat)) := [("java/lang/IllegalStateException", 1, (0, 8, 11, 20))]
def fL_lockable (a0 : Nat) (a1 : Nat) (s0 : AS) : Option AR :=
  cH s0 a0 10 (fX6_lockable a0 s0) hxL_lockable (qI (fun v1 s2 =>
  uJ s2 a1 0 (v1.toInt64) (fun s3 =>
  some (.inl (some (.int 0)), s3))))
theorem hXL_lockable : ∀ z ∈ hxL_lockable, ax_HX RL 3 3 cL_lockable z := List.forall_mem_cons.mpr ⟨⟨by decide, by decide, kw_1074, by decide, 1, 1, Or.inr ⟨2, dL_lockable_11, by decide, rfl⟩, dL_lockable_12, rfl, dL_lockable_13⟩, fun _ h => absurd h List.not_mem_nil⟩
set_option maxHeartbeats 4000000 in
theorem oL_lockable {Γ : CX} (C : OKC Γ cL_lockable RL (some (.int))) (T : (cx_c Γ).exceptionTable.toList = tableOf (hxL_lockable.map fun z => z.2.2)) (hn : cx_nL Γ = 3) (hR : cx_fr Γ = 8 ∧ cx_lo Γ = 181) (hin : (cx_meth Γ).name = yL_lockable.name) : ∀ (a0 : Nat) (a1 : Nat) (s0 : AS), OK Γ 0 [(0, .ref a0), (1, .ref a1)] [] (fL_lockable a0 a1 s0) s0 := by
  intro a0 a1 s0
  unfold fL_lockable
  refine ok_aload_n C 1 dL_lockable_0 rfl ?_
  refine ok_iconst C (v := 0) dL_lockable_1 (by decide) ?_
  refine ok_aload_n C 0 dL_lockable_2 rfl ?_
  refine ok_callVH C hxL_lockable (by rw [hn]; exact hXL_lockable) T [] (F := fX6_lockable a0) (ctX6_lockable (C.2.2.2.2.2.2.2.2.1) a0) vlL_108 viX6_lockable rfl rfl (by decide) rfl (by rw [hR.1, hR.2]; decide) (Nat.le_of_ble_eq_true rfl) dL_lockable_3 (ok_qI fun v1 s2 => ?_)
  refine ok_i2l C dL_lockable_6 ?_
  refine ok_last C dL_lockable_7 (fun s3 _ => ?_)
  refine ok_goto C 14 dL_lockable_8 (by decide) ?_
  refine ok_iconst C (v := 0) dL_lockable_14 (by decide) ?_
  exact ok_ireturn C dL_lockable_15
theorem ctL_lockable {l : Launch} (hl : l.stackTraces = false) {D : va_G} {dA : Nat → ClassId} {B0 : Nat} (a0 : Nat) (a1 : Nat) : Ct l D dA B0 yL_lockable (.codeWith yL_lockable cL_lockable 3 (some (.int)) [(0, 8, 11, 20)] :: ax_ALL) 8 181 [.ref a0, .ref a1] (fL_lockable a0 a1) :=
  Ct.ofW hl (by decide +kernel) (Nat.le_of_ble_eq_true rfl) fun Γ C _ _ _ _ e5 e6 e7 T hin => oL_lockable C T e5 ⟨e6, e7⟩ hin a0 a1 _
/-! ChaseLockerLaw.lockedAll(LChaseLocker;[J)I -/
def hxL_lockedAll : List (String × Int32 × (Nat × Nat × Nat × Nat)) := [("java/lang/IllegalStateException", 1, (0, 8, 11, 20))]
def fL_lockedAll (a0 : Nat) (a1 : Nat) (s0 : AS) : Option AR :=
  cH s0 a0 10 (fX6_lockedAll a0 s0) hxL_lockedAll (qI (fun v1 s2 =>
  uJ s2 a1 0 (v1.toInt64) (fun s3 =>
  some (.inl (some (.int 0)), s3))))
theorem hXL_lockedAll : ∀ z ∈ hxL_lockedAll, ax_HX RL 3 3 cL_lockedAll z := List.forall_mem_cons.mpr ⟨⟨by decide, by decide, kw_1074, by decide, 1, 1, Or.inr ⟨2, dL_lockedAll_11, by decide, rfl⟩, dL_lockedAll_12, rfl, dL_lockedAll_13⟩, fun _ h => absurd h List.not_mem_nil⟩
set_option maxHeartbeats 4000000 in
theorem oL_lockedAll {Γ : CX} (C : OKC Γ cL_lockedAll RL (some (.int))) (T : (cx_c Γ).exceptionTable.toList = tableOf (hxL_lockedAll.map fun z => z.2.2)) (hn : cx_nL Γ = 3) (hR : cx_fr Γ = 8 ∧ cx_lo Γ = 201) (hin : (cx_meth Γ).name = yL_lockedAll.name) : ∀ (a0 : Nat) (a1 : Nat) (s0 : AS), OK Γ 0 [(0, .ref a0), (1, .ref a1)] [] (fL_lockedAll a0 a1 s0) s0 := by
  intro a0 a1 s0
  unfold fL_lockedAll
  refine ok_aload_n C 1 dL_lockedAll_0 rfl ?_
  refine ok_iconst C (v := 0) dL_lockedAll_1 (by decide) ?_
  refine ok_aload_n C 0 dL_lockedAll_2 rfl ?_
  refine ok_callVH C hxL_lockedAll (by rw [hn]; exact hXL_lockedAll) T [] (F := fX6_lockedAll a0) (ctX6_lockedAll (C.2.2.2.2.2.2.2.2.1) a0) vlL_111 viX6_lockedAll rfl rfl (by decide) rfl (by rw [hR.1, hR.2]; decide) (Nat.le_of_ble_eq_true rfl) dL_lockedAll_3 (ok_qI fun v1 s2 => ?_)
  refine ok_i2l C dL_lockedAll_6 ?_
  refine ok_last C dL_lockedAll_7 (fun s3 _ => ?_)
  refine ok_goto C 14 dL_lockedAll_8 (by decide) ?_
  refine ok_iconst C (v := 0) dL_lockedAll_14 (by decide) ?_
  exact ok_ireturn C dL_lockedAll_15
theorem ctL_lockedAll {l : Launch} (hl : l.stackTraces = false) {D : va_G} {dA : Nat → ClassId} {B0 : Nat} (a0 : Nat) (a1 : Nat) : Ct l D dA B0 yL_lockedAll (.codeWith yL_lockedAll cL_lockedAll 3 (some (.int)) [(0, 8, 11, 20)] :: ax_ALL) 8 201 [.ref a0, .ref a1] (fL_lockedAll a0 a1) :=
  Ct.ofW hl (by decide +kernel) (Nat.le_of_ble_eq_true rfl) fun Γ C _ _ _ _ e5 e6 e7 T hin => oL_lockedAll C T e5 ⟨e6, e7⟩ hin a0 a1 _
/-! ChaseLockerLaw.writeRow(LChaseLocker;I[J)I -/
def hxL_writeRow : List (String × Int32 × (Nat × Nat × Nat × Nat)) := [("java/lang/IllegalStateException", 1, (0, 9, 12, 20)), ("java/lang/IndexOutOfBoundsException", 2, (0, 9, 15, 13))]
def fL_writeRow (a0 : Nat) (x1 : Int32) (a2 : Nat) (s0 : AS) : Option AR :=
  cH s0 a0 10 (fX6_writeRow a0 x1 s0) hxL_writeRow (qI (fun v1 s2 =>
  uJ s2 a2 0 (v1.toInt64) (fun s3 =>
  some (.inl (some (.int 0)), s3))))
theorem hXL_writeRow : ∀ z ∈ hxL_writeRow, ax_HX RL 4 4 cL_writeRow z := List.forall_mem_cons.mpr ⟨⟨by decide, by decide, kw_1074, by decide, 1, 1, Or.inr ⟨3, dL_writeRow_12, by decide, rfl⟩, dL_writeRow_13, rfl, dL_writeRow_14⟩, List.forall_mem_cons.mpr ⟨⟨by decide, by decide, kw_1068, by decide, 2, 1, Or.inr ⟨3, dL_writeRow_15, by decide, rfl⟩, dL_writeRow_16, rfl, dL_writeRow_17⟩, fun _ h => absurd h List.not_mem_nil⟩⟩
set_option maxHeartbeats 4000000 in
theorem oL_writeRow {Γ : CX} (C : OKC Γ cL_writeRow RL (some (.int))) (T : (cx_c Γ).exceptionTable.toList = tableOf (hxL_writeRow.map fun z => z.2.2)) (hn : cx_nL Γ = 4) (hR : cx_fr Γ = 10 ∧ cx_lo Γ = 250) (hin : (cx_meth Γ).name = yL_writeRow.name) : ∀ (a0 : Nat) (x1 : Int32) (a2 : Nat) (s0 : AS), OK Γ 0 [(0, .ref a0), (1, .int x1), (2, .ref a2)] [] (fL_writeRow a0 x1 a2 s0) s0 := by
  intro a0 x1 a2 s0
  unfold fL_writeRow
  refine ok_aload_n C 2 dL_writeRow_0 rfl ?_
  refine ok_iconst C (v := 0) dL_writeRow_1 (by decide) ?_
  refine ok_aload_n C 0 dL_writeRow_2 rfl ?_
  refine ok_iload_n C 1 dL_writeRow_3 rfl ?_
  refine ok_callVH C hxL_writeRow (by rw [hn]; exact hXL_writeRow) T [.int x1] (F := fX6_writeRow a0 x1) (ctX6_writeRow (C.2.2.2.2.2.2.2.2.1) a0 x1) vlL_114 viX6_writeRow rfl rfl (by decide) rfl (by rw [hR.1, hR.2]; decide) (Nat.le_of_ble_eq_true rfl) dL_writeRow_4 (ok_qI fun v1 s2 => ?_)
  refine ok_i2l C dL_writeRow_7 ?_
  refine ok_last C dL_writeRow_8 (fun s3 _ => ?_)
  refine ok_goto C 18 dL_writeRow_9 (by decide) ?_
  refine ok_iconst C (v := 0) dL_writeRow_18 (by decide) ?_
  exact ok_ireturn C dL_writeRow_19
theorem ctL_writeRow {l : Launch} (hl : l.stackTraces = false) {D : va_G} {dA : Nat → ClassId} {B0 : Nat} (a0 : Nat) (x1 : Int32) (a2 : Nat) : Ct l D dA B0 yL_writeRow (.codeWith yL_writeRow cL_writeRow 4 (some (.int)) [(0, 9, 12, 20), (0, 9, 15, 13)] :: ax_ALL) 10 250 [.ref a0, .int x1, .ref a2] (fL_writeRow a0 x1 a2) :=
  Ct.ofW hl (by decide +kernel) (Nat.le_of_ble_eq_true rfl) fun Γ C _ _ _ _ e5 e6 e7 T hin => oL_writeRow C T e5 ⟨e6, e7⟩ hin a0 x1 a2 _
/-! ChaseLockerLaw.writeChoice(LChaseLocker;I[J)I -/
def hxL_writeChoice : List (String × Int32 × (Nat × Nat × Nat × Nat)) := [("java/lang/IllegalStateException", 1, (0, 9, 12, 20)), ("java/lang/IndexOutOfBoundsException", 2, (0, 9, 15, 13))]
def fL_writeChoice (a0 : Nat) (x1 : Int32) (a2 : Nat) (s0 : AS) : Option AR :=
  cH s0 a0 10 (fX6_writeChoice a0 x1 s0) hxL_writeChoice (qI (fun v1 s2 =>
  uJ s2 a2 0 (v1.toInt64) (fun s3 =>
  some (.inl (some (.int 0)), s3))))
theorem hXL_writeChoice : ∀ z ∈ hxL_writeChoice, ax_HX RL 4 4 cL_writeChoice z := List.forall_mem_cons.mpr ⟨⟨by decide, by decide, kw_1074, by decide, 1, 1, Or.inr ⟨3, dL_writeChoice_12, by decide, rfl⟩, dL_writeChoice_13, rfl, dL_writeChoice_14⟩, List.forall_mem_cons.mpr ⟨⟨by decide, by decide, kw_1068, by decide, 2, 1, Or.inr ⟨3, dL_writeChoice_15, by decide, rfl⟩, dL_writeChoice_16, rfl, dL_writeChoice_17⟩, fun _ h => absurd h List.not_mem_nil⟩⟩
set_option maxHeartbeats 4000000 in
theorem oL_writeChoice {Γ : CX} (C : OKC Γ cL_writeChoice RL (some (.int))) (T : (cx_c Γ).exceptionTable.toList = tableOf (hxL_writeChoice.map fun z => z.2.2)) (hn : cx_nL Γ = 4) (hR : cx_fr Γ = 10 ∧ cx_lo Γ = 251) (hin : (cx_meth Γ).name = yL_writeChoice.name) : ∀ (a0 : Nat) (x1 : Int32) (a2 : Nat) (s0 : AS), OK Γ 0 [(0, .ref a0), (1, .int x1), (2, .ref a2)] [] (fL_writeChoice a0 x1 a2 s0) s0 := by
  intro a0 x1 a2 s0
  unfold fL_writeChoice
  refine ok_aload_n C 2 dL_writeChoice_0 rfl ?_
  refine ok_iconst C (v := 0) dL_writeChoice_1 (by decide) ?_
  refine ok_aload_n C 0 dL_writeChoice_2 rfl ?_
  refine ok_iload_n C 1 dL_writeChoice_3 rfl ?_
  refine ok_callVH C hxL_writeChoice (by rw [hn]; exact hXL_writeChoice) T [.int x1] (F := fX6_writeChoice a0 x1) (ctX6_writeChoice (C.2.2.2.2.2.2.2.2.1) a0 x1) vlL_117 viX6_writeChoice rfl rfl (by decide) rfl (by rw [hR.1, hR.2]; decide) (Nat.le_of_ble_eq_true rfl) dL_writeChoice_4 (ok_qI fun v1 s2 => ?_)
  refine ok_i2l C dL_writeChoice_7 ?_
  refine ok_last C dL_writeChoice_8 (fun s3 _ => ?_)
  refine ok_goto C 18 dL_writeChoice_9 (by decide) ?_
  refine ok_iconst C (v := 0) dL_writeChoice_18 (by decide) ?_
  exact ok_ireturn C dL_writeChoice_19
theorem ctL_writeChoice {l : Launch} (hl : l.stackTraces = false) {D : va_G} {dA : Nat → ClassId} {B0 : Nat} (a0 : Nat) (x1 : Int32) (a2 : Nat) : Ct l D dA B0 yL_writeChoice (.codeWith yL_writeChoice cL_writeChoice 4 (some (.int)) [(0, 9, 12, 20), (0, 9, 15, 13)] :: ax_ALL) 10 251 [.ref a0, .int x1, .ref a2] (fL_writeChoice a0 x1 a2) :=
  Ct.ofW hl (by decide +kernel) (Nat.le_of_ble_eq_true rfl) fun Γ C _ _ _ _ e5 e6 e7 T hin => oL_writeChoice C T e5 ⟨e6, e7⟩ hin a0 x1 a2 _
/-! ChaseLockerLaw.writeStock(LChaseLocker;[J)I -/
def hxL_writeStock : List (String × Int32 × (Nat × Nat × Nat × Nat)) := [("java/lang/IllegalStateException", 1, (0, 8, 11, 20))]
def fL_writeStock (a0 : Nat) (a1 : Nat) (s0 : AS) : Option AR :=
  cH s0 a0 10 (fX6_writeStock a0 s0) hxL_writeStock (qI (fun v1 s2 =>
  uJ s2 a1 0 (v1.toInt64) (fun s3 =>
  some (.inl (some (.int 0)), s3))))
theorem hXL_writeStock : ∀ z ∈ hxL_writeStock, ax_HX RL 3 3 cL_writeStock z := List.forall_mem_cons.mpr ⟨⟨by decide, by decide, kw_1074, by decide, 1, 1, Or.inr ⟨2, dL_writeStock_11, by decide, rfl⟩, dL_writeStock_12, rfl, dL_writeStock_13⟩, fun _ h => absurd h List.not_mem_nil⟩
set_option maxHeartbeats 4000000 in
theorem oL_writeStock {Γ : CX} (C : OKC Γ cL_writeStock RL (some (.int))) (T : (cx_c Γ).exceptionTable.toList = tableOf (hxL_writeStock.map fun z => z.2.2)) (hn : cx_nL Γ = 3) (hR : cx_fr Γ = 9 ∧ cx_lo Γ = 230) (hin : (cx_meth Γ).name = yL_writeStock.name) : ∀ (a0 : Nat) (a1 : Nat) (s0 : AS), OK Γ 0 [(0, .ref a0), (1, .ref a1)] [] (fL_writeStock a0 a1 s0) s0 := by
  intro a0 a1 s0
  unfold fL_writeStock
  refine ok_aload_n C 1 dL_writeStock_0 rfl ?_
  refine ok_iconst C (v := 0) dL_writeStock_1 (by decide) ?_
  refine ok_aload_n C 0 dL_writeStock_2 rfl ?_
  refine ok_callVH C hxL_writeStock (by rw [hn]; exact hXL_writeStock) T [] (F := fX6_writeStock a0) (ctX6_writeStock (C.2.2.2.2.2.2.2.2.1) a0) vlL_120 viX6_writeStock rfl rfl (by decide) rfl (by rw [hR.1, hR.2]; decide) (Nat.le_of_ble_eq_true rfl) dL_writeStock_3 (ok_qI fun v1 s2 => ?_)
  refine ok_i2l C dL_writeStock_6 ?_
  refine ok_last C dL_writeStock_7 (fun s3 _ => ?_)
  refine ok_goto C 14 dL_writeStock_8 (by decide) ?_
  refine ok_iconst C (v := 0) dL_writeStock_14 (by decide) ?_
  exact ok_ireturn C dL_writeStock_15
theorem ctL_writeStock {l : Launch} (hl : l.stackTraces = false) {D : va_G} {dA : Nat → ClassId} {B0 : Nat} (a0 : Nat) (a1 : Nat) : Ct l D dA B0 yL_writeStock (.codeWith yL_writeStock cL_writeStock 3 (some (.int)) [(0, 8, 11, 20)] :: ax_ALL) 9 230 [.ref a0, .ref a1] (fL_writeStock a0 a1) :=
  Ct.ofW hl (by decide +kernel) (Nat.le_of_ble_eq_true rfl) fun Γ C _ _ _ _ e5 e6 e7 T hin => oL_writeStock C T e5 ⟨e6, e7⟩ hin a0 a1 _
/-! ChaseLockerLaw.textByte(LChaseLocker;I[J)I -/
def hxL_textByte : List (String × Int32 × (Nat × Nat × Nat × Nat)) := [("java/lang/IndexOutOfBoundsException", 1, (0, 9, 12, 13))]
def fL_textByte (a0 : Nat) (x1 : Int32) (a2 : Nat) (s0 : AS) : Option AR :=
  cH s0 a0 10 (fX6_textByte a0 x1 s0) hxL_textByte (qI (fun v1 s2 =>
  uJ s2 a2 0 (v1.toInt64) (fun s3 =>
  some (.inl (some (.int 0)), s3))))
theorem hXL_textByte : ∀ z ∈ hxL_textByte, ax_HX RL 4 4 cL_textByte z := List.forall_mem_cons.mpr ⟨⟨by decide, by decide, kw_1068, by decide, 1, 1, Or.inr ⟨3, dL_textByte_12, by decide, rfl⟩, dL_textByte_13, rfl, dL_textByte_14⟩, fun _ h => absurd h List.not_mem_nil⟩
set_option maxHeartbeats 4000000 in
theorem oL_textByte {Γ : CX} (C : OKC Γ cL_textByte RL (some (.int))) (T : (cx_c Γ).exceptionTable.toList = tableOf (hxL_textByte.map fun z => z.2.2)) (hn : cx_nL Γ = 4) (hR : cx_fr Γ = 8 ∧ cx_lo Γ = 169) (hin : (cx_meth Γ).name = yL_textByte.name) : ∀ (a0 : Nat) (x1 : Int32) (a2 : Nat) (s0 : AS), OK Γ 0 [(0, .ref a0), (1, .int x1), (2, .ref a2)] [] (fL_textByte a0 x1 a2 s0) s0 := by
  intro a0 x1 a2 s0
  unfold fL_textByte
  refine ok_aload_n C 2 dL_textByte_0 rfl ?_
  refine ok_iconst C (v := 0) dL_textByte_1 (by decide) ?_
  refine ok_aload_n C 0 dL_textByte_2 rfl ?_
  refine ok_iload_n C 1 dL_textByte_3 rfl ?_
  refine ok_callVH C hxL_textByte (by rw [hn]; exact hXL_textByte) T [.int x1] (F := fX6_textByte a0 x1) (ctX6_textByte (C.2.2.2.2.2.2.2.2.1) a0 x1) vlL_123 viX6_textByte rfl rfl (by decide) rfl (by rw [hR.1, hR.2]; decide) (Nat.le_of_ble_eq_true rfl) dL_textByte_4 (ok_qI fun v1 s2 => ?_)
  refine ok_i2l C dL_textByte_7 ?_
  refine ok_last C dL_textByte_8 (fun s3 _ => ?_)
  refine ok_goto C 15 dL_textByte_9 (by decide) ?_
  refine ok_iconst C (v := 0) dL_textByte_15 (by decide) ?_
  exact ok_ireturn C dL_textByte_16
theorem ctL_textByte {l : Launch} (hl : l.stackTraces = false) {D : va_G} {dA : Nat → ClassId} {B0 : Nat} (a0 : Nat) (x1 : Int32) (a2 : Nat) : Ct l D dA B0 yL_textByte (.codeWith yL_textByte cL_textByte 4 (some (.int)) [(0, 9, 12, 13)] :: ax_ALL) 8 169 [.ref a0, .int x1, .ref a2] (fL_textByte a0 x1 a2) :=
  Ct.ofW hl (by decide +kernel) (Nat.le_of_ble_eq_true rfl) fun Γ C _ _ _ _ e5 e6 e7 T hin => oL_textByte C T e5 ⟨e6, e7⟩ hin a0 x1 a2 _
/-! ChaseLockerLaw.place(LChaseLocker;II[J)I -/
def hxL_place : List (String × Int32 × (Nat × Nat × Nat × Nat)) := [("java/lang/IllegalStateException", 1, (0, 10, 13, 20)), ("java/lang/IndexOutOfBoundsException", 2, (0, 10, 17, 13)), ("java/lang/IllegalArgumentException", 3, (0, 10, 21, 15))]
def fL_place (a0 : Nat) (x1 : Int32) (x2 : Int32) (a3 : Nat) (s0 : AS) : Option AR :=
  cH s0 a0 10 (fX6_place a0 x1 x2 s0) hxL_place (qI (fun v1 s2 =>
  uJ s2 a3 0 (v1.toInt64) (fun s3 =>
  some (.inl (some (.int 0)), s3))))
theorem hXL_place : ∀ z ∈ hxL_place, ax_HX RL 5 5 cL_place z := List.forall_mem_cons.mpr ⟨⟨by decide, by decide, kw_1074, by decide, 1, 2, Or.inl ⟨4, dL_place_13, by decide, rfl⟩, dL_place_15, rfl, dL_place_16⟩, List.forall_mem_cons.mpr ⟨⟨by decide, by decide, kw_1068, by decide, 2, 2, Or.inl ⟨4, dL_place_17, by decide, rfl⟩, dL_place_19, rfl, dL_place_20⟩, List.forall_mem_cons.mpr ⟨⟨by decide, by decide, kw_1069, by decide, 3, 2, Or.inl ⟨4, dL_place_21, by decide, rfl⟩, dL_place_23, rfl, dL_place_24⟩, fun _ h => absurd h List.not_mem_nil⟩⟩⟩
set_option maxHeartbeats 4000000 in
theorem oL_place {Γ : CX} (C : OKC Γ cL_place RL (some (.int))) (T : (cx_c Γ).exceptionTable.toList = tableOf (hxL_place.map fun z => z.2.2)) (hn : cx_nL Γ = 5) (hR : cx_fr Γ = 9 ∧ cx_lo Γ = 187) (hin : (cx_meth Γ).name = yL_place.name) : ∀ (a0 : Nat) (x1 : Int32) (x2 : Int32) (a3 : Nat) (s0 : AS), OK Γ 0 [(0, .ref a0), (1, .int x1), (2, .int x2), (3, .ref a3)] [] (fL_place a0 x1 x2 a3 s0) s0 := by
  intro a0 x1 x2 a3 s0
  unfold fL_place
  refine ok_aload_n C 3 dL_place_0 rfl ?_
  refine ok_iconst C (v := 0) dL_place_1 (by decide) ?_
  refine ok_aload_n C 0 dL_place_2 rfl ?_
  refine ok_iload_n C 1 dL_place_3 rfl ?_
  refine ok_iload_n C 2 dL_place_4 rfl ?_
  refine ok_callVH C hxL_place (by rw [hn]; exact hXL_place) T [.int x1, .int x2] (F := fX6_place a0 x1 x2) (ctX6_place (C.2.2.2.2.2.2.2.2.1) a0 x1 x2) vlL_126 viX6_place rfl rfl (by decide) rfl (by rw [hR.1, hR.2]; decide) (Nat.le_of_ble_eq_true rfl) dL_place_5 (ok_qI fun v1 s2 => ?_)
  refine ok_i2l C dL_place_8 ?_
  refine ok_last C dL_place_9 (fun s3 _ => ?_)
  refine ok_goto C 25 dL_place_10 (by decide) ?_
  refine ok_iconst C (v := 0) dL_place_25 (by decide) ?_
  exact ok_ireturn C dL_place_26
theorem ctL_place {l : Launch} (hl : l.stackTraces = false) {D : va_G} {dA : Nat → ClassId} {B0 : Nat} (a0 : Nat) (x1 : Int32) (x2 : Int32) (a3 : Nat) : Ct l D dA B0 yL_place (.codeWith yL_place cL_place 5 (some (.int)) [(0, 10, 13, 20), (0, 10, 17, 13), (0, 10, 21, 15)] :: ax_ALL) 9 187 [.ref a0, .int x1, .int x2, .ref a3] (fL_place a0 x1 x2 a3) :=
  Ct.ofW hl (by decide +kernel) (Nat.le_of_ble_eq_true rfl) fun Γ C _ _ _ _ e5 e6 e7 T hin => oL_place C T e5 ⟨e6, e7⟩ hin a0 x1 x2 a3 _
/-! ChaseLockerLaw.lift(LChaseLocker;II[J)I -/
def hxL_lift : List (String × Int32 × (Nat × Nat × Nat × Nat)) := [("java/lang/IllegalStateException", 1, (0, 10, 13, 20)), ("java/lang/IndexOutOfBoundsException", 2, (0, 10, 17, 13))]
def fL_lift (a0 : Nat) (x1 : Int32) (x2 : Int32) (a3 : Nat) (s0 : AS) : Option AR :=
  cH s0 a0 10 (fX6_lift a0 x1 x2 s0) hxL_lift (qI (fun v1 s2 =>
  uJ s2 a3 0 (v1.toInt64) (fun s3 =>
  some (.inl (some (.int 0)), s3))))
theorem hXL_lift : ∀ z ∈ hxL_lift, ax_HX RL 5 5 cL_lift z := List.forall_mem_cons.mpr ⟨⟨by decide, by decide, kw_1074, by decide, 1, 2, Or.inl ⟨4, dL_lift_13, by decide, rfl⟩, dL_lift_15, rfl, dL_lift_16⟩, List.forall_mem_cons.mpr ⟨⟨by decide, by decide, kw_1068, by decide, 2, 2, Or.inl ⟨4, dL_lift_17, by decide, rfl⟩, dL_lift_19, rfl, dL_lift_20⟩, fun _ h => absurd h List.not_mem_nil⟩⟩
set_option maxHeartbeats 4000000 in
theorem oL_lift {Γ : CX} (C : OKC Γ cL_lift RL (some (.int))) (T : (cx_c Γ).exceptionTable.toList = tableOf (hxL_lift.map fun z => z.2.2)) (hn : cx_nL Γ = 5) (hR : cx_fr Γ = 9 ∧ cx_lo Γ = 187) (hin : (cx_meth Γ).name = yL_lift.name) : ∀ (a0 : Nat) (x1 : Int32) (x2 : Int32) (a3 : Nat) (s0 : AS), OK Γ 0 [(0, .ref a0), (1, .int x1), (2, .int x2), (3, .ref a3)] [] (fL_lift a0 x1 x2 a3 s0) s0 := by
  intro a0 x1 x2 a3 s0
  unfold fL_lift
  refine ok_aload_n C 3 dL_lift_0 rfl ?_
  refine ok_iconst C (v := 0) dL_lift_1 (by decide) ?_
  refine ok_aload_n C 0 dL_lift_2 rfl ?_
  refine ok_iload_n C 1 dL_lift_3 rfl ?_
  refine ok_iload_n C 2 dL_lift_4 rfl ?_
  refine ok_callVH C hxL_lift (by rw [hn]; exact hXL_lift) T [.int x1, .int x2] (F := fX6_lift a0 x1 x2) (ctX6_lift (C.2.2.2.2.2.2.2.2.1) a0 x1 x2) vlL_129 viX6_lift rfl rfl (by decide) rfl (by rw [hR.1, hR.2]; decide) (Nat.le_of_ble_eq_true rfl) dL_lift_5 (ok_qI fun v1 s2 => ?_)
  refine ok_i2l C dL_lift_8 ?_
  refine ok_last C dL_lift_9 (fun s3 _ => ?_)
  refine ok_goto C 21 dL_lift_10 (by decide) ?_
  refine ok_iconst C (v := 0) dL_lift_21 (by decide) ?_
  exact ok_ireturn C dL_lift_22
theorem ctL_lift {l : Launch} (hl : l.stackTraces = false) {D : va_G} {dA : Nat → ClassId} {B0 : Nat} (a0 : Nat) (x1 : Int32) (x2 : Int32) (a3 : Nat) : Ct l D dA B0 yL_lift (.codeWith yL_lift cL_lift 5 (some (.int)) [(0, 10, 13, 20), (0, 10, 17, 13)] :: ax_ALL) 9 187 [.ref a0, .int x1, .int x2, .ref a3] (fL_lift a0 x1 x2 a3) :=
  Ct.ofW hl (by decide +kernel) (Nat.le_of_ble_eq_true rfl) fun Γ C _ _ _ _ e5 e6 e7 T hin => oL_lift C T e5 ⟨e6, e7⟩ hin a0 x1 x2 a3 _
/-! ChaseLockerLaw.put(LChaseLocker;II[J)I -/
def hxL_put : List (String × Int32 × (Nat × Nat × Nat × Nat)) := [("java/lang/IllegalStateException", 1, (0, 10, 13, 20)), ("java/lang/IndexOutOfBoundsException", 2, (0, 10, 17, 13)), ("java/lang/IllegalArgumentException", 3, (0, 10, 21, 15))]
def fL_put (a0 : Nat) (x1 : Int32) (x2 : Int32) (a3 : Nat) (s0 : AS) : Option AR :=
  cH s0 a0 10 (fX6_put a0 x1 x2 s0) hxL_put (qI (fun v1 s2 =>
  uJ s2 a3 0 (v1.toInt64) (fun s3 =>
  some (.inl (some (.int 0)), s3))))
theorem hXL_put : ∀ z ∈ hxL_put, ax_HX RL 5 5 cL_put z := List.forall_mem_cons.mpr ⟨⟨by decide, by decide, kw_1074, by decide, 1, 2, Or.inl ⟨4, dL_put_13, by decide, rfl⟩, dL_put_15, rfl, dL_put_16⟩, List.forall_mem_cons.mpr ⟨⟨by decide, by decide, kw_1068, by decide, 2, 2, Or.inl ⟨4, dL_put_17, by decide, rfl⟩, dL_put_19, rfl, dL_put_20⟩, List.forall_mem_cons.mpr ⟨⟨by decide, by decide, kw_1069, by decide, 3, 2, Or.inl ⟨4, dL_put_21, by decide, rfl⟩, dL_put_23, rfl, dL_put_24⟩, fun _ h => absurd h List.not_mem_nil⟩⟩⟩
set_option maxHeartbeats 4000000 in
theorem oL_put {Γ : CX} (C : OKC Γ cL_put RL (some (.int))) (T : (cx_c Γ).exceptionTable.toList = tableOf (hxL_put.map fun z => z.2.2)) (hn : cx_nL Γ = 5) (hR : cx_fr Γ = 9 ∧ cx_lo Γ = 187) (hin : (cx_meth Γ).name = yL_put.name) : ∀ (a0 : Nat) (x1 : Int32) (x2 : Int32) (a3 : Nat) (s0 : AS), OK Γ 0 [(0, .ref a0), (1, .int x1), (2, .int x2), (3, .ref a3)] [] (fL_put a0 x1 x2 a3 s0) s0 := by
  intro a0 x1 x2 a3 s0
  unfold fL_put
  refine ok_aload_n C 3 dL_put_0 rfl ?_
  refine ok_iconst C (v := 0) dL_put_1 (by decide) ?_
  refine ok_aload_n C 0 dL_put_2 rfl ?_
  refine ok_iload_n C 1 dL_put_3 rfl ?_
  refine ok_iload_n C 2 dL_put_4 rfl ?_
  refine ok_callVH C hxL_put (by rw [hn]; exact hXL_put) T [.int x1, .int x2] (F := fX6_put a0 x1 x2) (ctX6_put (C.2.2.2.2.2.2.2.2.1) a0 x1 x2) vlL_132 viX6_put rfl rfl (by decide) rfl (by rw [hR.1, hR.2]; decide) (Nat.le_of_ble_eq_true rfl) dL_put_5 (ok_qI fun v1 s2 => ?_)
  refine ok_i2l C dL_put_8 ?_
  refine ok_last C dL_put_9 (fun s3 _ => ?_)
  refine ok_goto C 25 dL_put_10 (by decide) ?_
  refine ok_iconst C (v := 0) dL_put_25 (by decide) ?_
  exact ok_ireturn C dL_put_26
theorem ctL_put {l : Launch} (hl : l.stackTraces = false) {D : va_G} {dA : Nat → ClassId} {B0 : Nat} (a0 : Nat) (x1 : Int32) (x2 : Int32) (a3 : Nat) : Ct l D dA B0 yL_put (.codeWith yL_put cL_put 5 (some (.int)) [(0, 10, 13, 20), (0, 10, 17, 13), (0, 10, 21, 15)] :: ax_ALL) 9 187 [.ref a0, .int x1, .int x2, .ref a3] (fL_put a0 x1 x2 a3) :=
  Ct.ofW hl (by decide +kernel) (Nat.le_of_ble_eq_true rfl) fun Γ C _ _ _ _ e5 e6 e7 T hin => oL_put C T e5 ⟨e6, e7⟩ hin a0 x1 x2 a3 _
/-! ChaseLockerLaw.take(LChaseLocker;II[J)I -/
def hxL_take : List (String × Int32 × (Nat × Nat × Nat × Nat)) := [("java/lang/IllegalStateException", 1, (0, 10, 13, 20)), ("java/lang/IndexOutOfBoundsException", 2, (0, 10, 17, 13))]
def fL_take (a0 : Nat) (x1 : Int32) (x2 : Int32) (a3 : Nat) (s0 : AS) : Option AR :=
  cH s0 a0 10 (fX6_take a0 x1 x2 s0) hxL_take (qI (fun v1 s2 =>
  uJ s2 a3 0 (v1.toInt64) (fun s3 =>
  some (.inl (some (.int 0)), s3))))
theorem hXL_take : ∀ z ∈ hxL_take, ax_HX RL 5 5 cL_take z := List.forall_mem_cons.mpr ⟨⟨by decide, by decide, kw_1074, by decide, 1, 2, Or.inl ⟨4, dL_take_13, by decide, rfl⟩, dL_take_15, rfl, dL_take_16⟩, List.forall_mem_cons.mpr ⟨⟨by decide, by decide, kw_1068, by decide, 2, 2, Or.inl ⟨4, dL_take_17, by decide, rfl⟩, dL_take_19, rfl, dL_take_20⟩, fun _ h => absurd h List.not_mem_nil⟩⟩
set_option maxHeartbeats 4000000 in
theorem oL_take {Γ : CX} (C : OKC Γ cL_take RL (some (.int))) (T : (cx_c Γ).exceptionTable.toList = tableOf (hxL_take.map fun z => z.2.2)) (hn : cx_nL Γ = 5) (hR : cx_fr Γ = 9 ∧ cx_lo Γ = 187) (hin : (cx_meth Γ).name = yL_take.name) : ∀ (a0 : Nat) (x1 : Int32) (x2 : Int32) (a3 : Nat) (s0 : AS), OK Γ 0 [(0, .ref a0), (1, .int x1), (2, .int x2), (3, .ref a3)] [] (fL_take a0 x1 x2 a3 s0) s0 := by
  intro a0 x1 x2 a3 s0
  unfold fL_take
  refine ok_aload_n C 3 dL_take_0 rfl ?_
  refine ok_iconst C (v := 0) dL_take_1 (by decide) ?_
  refine ok_aload_n C 0 dL_take_2 rfl ?_
  refine ok_iload_n C 1 dL_take_3 rfl ?_
  refine ok_iload_n C 2 dL_take_4 rfl ?_
  refine ok_callVH C hxL_take (by rw [hn]; exact hXL_take) T [.int x1, .int x2] (F := fX6_take a0 x1 x2) (ctX6_take (C.2.2.2.2.2.2.2.2.1) a0 x1 x2) vlL_135 viX6_take rfl rfl (by decide) rfl (by rw [hR.1, hR.2]; decide) (Nat.le_of_ble_eq_true rfl) dL_take_5 (ok_qI fun v1 s2 => ?_)
  refine ok_i2l C dL_take_8 ?_
  refine ok_last C dL_take_9 (fun s3 _ => ?_)
  refine ok_goto C 21 dL_take_10 (by decide) ?_
  refine ok_iconst C (v := 0) dL_take_21 (by decide) ?_
  exact ok_ireturn C dL_take_22
theorem ctL_take {l : Launch} (hl : l.stackTraces = false) {D : va_G} {dA : Nat → ClassId} {B0 : Nat} (a0 : Nat) (x1 : Int32) (x2 : Int32) (a3 : Nat) : Ct l D dA B0 yL_take (.codeWith yL_take cL_take 5 (some (.int)) [(0, 10, 13, 20), (0, 10, 17, 13)] :: ax_ALL) 9 187 [.ref a0, .int x1, .int x2, .ref a3] (fL_take a0 x1 x2 a3) :=
  Ct.ofW hl (by decide +kernel) (Nat.le_of_ble_eq_true rfl) fun Γ C _ _ _ _ e5 e6 e7 T hin => oL_take C T e5 ⟨e6, e7⟩ hin a0 x1 x2 a3 _
/-! ChaseLockerLaw.quoin(LChaseLocker;IZ[J)I -/
def hxL_quoin : List (String × Int32 × (Nat × Nat × Nat × Nat)) := [("java/lang/IllegalStateException", 1, (0, 10, 13, 20)), ("java/lang/IndexOutOfBoundsException", 2, (0, 10, 17, 13)), ("java/lang/IllegalArgumentException", 3, (0, 10, 21, 15))]
def fL_quoin (a0 : Nat) (x1 : Int32) (x2 : Int32) (a3 : Nat) (s0 : AS) : Option AR :=
  cH s0 a0 10 (fX6_quoin a0 x1 x2 s0) hxL_quoin (qI (fun v1 s2 =>
  uJ s2 a3 0 (v1.toInt64) (fun s3 =>
  some (.inl (some (.int 0)), s3))))
theorem hXL_quoin : ∀ z ∈ hxL_quoin, ax_HX RL 5 5 cL_quoin z := List.forall_mem_cons.mpr ⟨⟨by decide, by decide, kw_1074, by decide, 1, 2, Or.inl ⟨4, dL_quoin_13, by decide, rfl⟩, dL_quoin_15, rfl, dL_quoin_16⟩, List.forall_mem_cons.mpr ⟨⟨by decide, by decide, kw_1068, by decide, 2, 2, Or.inl ⟨4, dL_quoin_17, by decide, rfl⟩, dL_quoin_19, rfl, dL_quoin_20⟩, List.forall_mem_cons.mpr ⟨⟨by decide, by decide, kw_1069, by decide, 3, 2, Or.inl ⟨4, dL_quoin_21, by decide, rfl⟩, dL_quoin_23, rfl, dL_quoin_24⟩, fun _ h => absurd h List.not_mem_nil⟩⟩⟩
set_option maxHeartbeats 4000000 in
theorem oL_quoin {Γ : CX} (C : OKC Γ cL_quoin RL (some (.int))) (T : (cx_c Γ).exceptionTable.toList = tableOf (hxL_quoin.map fun z => z.2.2)) (hn : cx_nL Γ = 5) (hR : cx_fr Γ = 9 ∧ cx_lo Γ = 187) (hin : (cx_meth Γ).name = yL_quoin.name) : ∀ (a0 : Nat) (x1 : Int32) (x2 : Int32) (a3 : Nat) (s0 : AS), OK Γ 0 [(0, .ref a0), (1, .int x1), (2, .int x2), (3, .ref a3)] [] (fL_quoin a0 x1 x2 a3 s0) s0 := by
  intro a0 x1 x2 a3 s0
  unfold fL_quoin
  refine ok_aload_n C 3 dL_quoin_0 rfl ?_
  refine ok_iconst C (v := 0) dL_quoin_1 (by decide) ?_
  refine ok_aload_n C 0 dL_quoin_2 rfl ?_
  refine ok_iload_n C 1 dL_quoin_3 rfl ?_
  refine ok_iload_n C 2 dL_quoin_4 rfl ?_
  refine ok_callVH C hxL_quoin (by rw [hn]; exact hXL_quoin) T [.int x1, .int x2] (F := fX6_quoin a0 x1 x2) (ctX6_quoin (C.2.2.2.2.2.2.2.2.1) a0 x1 x2) vlL_138 viX6_quoin rfl rfl (by decide) rfl (by rw [hR.1, hR.2]; decide) (Nat.le_of_ble_eq_true rfl) dL_quoin_5 (ok_qI fun v1 s2 => ?_)
  refine ok_i2l C dL_quoin_8 ?_
  refine ok_last C dL_quoin_9 (fun s3 _ => ?_)
  refine ok_goto C 25 dL_quoin_10 (by decide) ?_
  refine ok_iconst C (v := 0) dL_quoin_25 (by decide) ?_
  exact ok_ireturn C dL_quoin_26
theorem ctL_quoin {l : Launch} (hl : l.stackTraces = false) {D : va_G} {dA : Nat → ClassId} {B0 : Nat} (a0 : Nat) (x1 : Int32) (x2 : Int32) (a3 : Nat) : Ct l D dA B0 yL_quoin (.codeWith yL_quoin cL_quoin 5 (some (.int)) [(0, 10, 13, 20), (0, 10, 17, 13), (0, 10, 21, 15)] :: ax_ALL) 9 187 [.ref a0, .int x1, .int x2, .ref a3] (fL_quoin a0 x1 x2 a3) :=
  Ct.ofW hl (by decide +kernel) (Nat.le_of_ble_eq_true rfl) fun Γ C _ _ _ _ e5 e6 e7 T hin => oL_quoin C T e5 ⟨e6, e7⟩ hin a0 x1 x2 a3 _
/-! ChaseLockerLaw.open(LChaseLocker;II[J)I -/
def hxL_open : List (String × Int32 × (Nat × Nat × Nat × Nat)) := [("java/lang/IllegalStateException", 1, (0, 10, 13, 20)), ("java/lang/IndexOutOfBoundsException", 2, (0, 10, 17, 13)), ("java/lang/IllegalArgumentException", 3, (0, 10, 21, 15))]
def fL_open (a0 : Nat) (x1 : Int32) (x2 : Int32) (a3 : Nat) (s0 : AS) : Option AR :=
  cH s0 a0 10 (fX6_open a0 x1 x2 s0) hxL_open (qI (fun v1 s2 =>
  uJ s2 a3 0 (v1.toInt64) (fun s3 =>
  some (.inl (some (.int 0)), s3))))
theorem hXL_open : ∀ z ∈ hxL_open, ax_HX RL 5 5 cL_open z := List.forall_mem_cons.mpr ⟨⟨by decide, by decide, kw_1074, by decide, 1, 2, Or.inl ⟨4, dL_open_13, by decide, rfl⟩, dL_open_15, rfl, dL_open_16⟩, List.forall_mem_cons.mpr ⟨⟨by decide, by decide, kw_1068, by decide, 2, 2, Or.inl ⟨4, dL_open_17, by decide, rfl⟩, dL_open_19, rfl, dL_open_20⟩, List.forall_mem_cons.mpr ⟨⟨by decide, by decide, kw_1069, by decide, 3, 2, Or.inl ⟨4, dL_open_21, by decide, rfl⟩, dL_open_23, rfl, dL_open_24⟩, fun _ h => absurd h List.not_mem_nil⟩⟩⟩
set_option maxHeartbeats 4000000 in
theorem oL_open {Γ : CX} (C : OKC Γ cL_open RL (some (.int))) (T : (cx_c Γ).exceptionTable.toList = tableOf (hxL_open.map fun z => z.2.2)) (hn : cx_nL Γ = 5) (hR : cx_fr Γ = 9 ∧ cx_lo Γ = 187) (hin : (cx_meth Γ).name = yL_open.name) : ∀ (a0 : Nat) (x1 : Int32) (x2 : Int32) (a3 : Nat) (s0 : AS), OK Γ 0 [(0, .ref a0), (1, .int x1), (2, .int x2), (3, .ref a3)] [] (fL_open a0 x1 x2 a3 s0) s0 := by
  intro a0 x1 x2 a3 s0
  unfold fL_open
  refine ok_aload_n C 3 dL_open_0 rfl ?_
  refine ok_iconst C (v := 0) dL_open_1 (by decide) ?_
  refine ok_aload_n C 0 dL_open_2 rfl ?_
  refine ok_iload_n C 1 dL_open_3 rfl ?_
  refine ok_iload_n C 2 dL_open_4 rfl ?_
  refine ok_callVH C hxL_open (by rw [hn]; exact hXL_open) T [.int x1, .int x2] (F := fX6_open a0 x1 x2) (ctX6_open (C.2.2.2.2.2.2.2.2.1) a0 x1 x2) vlL_141 viX6_open rfl rfl (by decide) rfl (by rw [hR.1, hR.2]; decide) (Nat.le_of_ble_eq_true rfl) dL_open_5 (ok_qI fun v1 s2 => ?_)
  refine ok_i2l C dL_open_8 ?_
  refine ok_last C dL_open_9 (fun s3 _ => ?_)
  refine ok_goto C 25 dL_open_10 (by decide) ?_
  refine ok_iconst C (v := 0) dL_open_25 (by decide) ?_
  exact ok_ireturn C dL_open_26
theorem ctL_open {l : Launch} (hl : l.stackTraces = false) {D : va_G} {dA : Nat → ClassId} {B0 : Nat} (a0 : Nat) (x1 : Int32) (x2 : Int32) (a3 : Nat) : Ct l D dA B0 yL_open (.codeWith yL_open cL_open 5 (some (.int)) [(0, 10, 13, 20), (0, 10, 17, 13), (0, 10, 21, 15)] :: ax_ALL) 9 187 [.ref a0, .int x1, .int x2, .ref a3] (fL_open a0 x1 x2 a3) :=
  Ct.ofW hl (by decide +kernel) (Nat.le_of_ble_eq_true rfl) fun Γ C _ _ _ _ e5 e6 e7 T hin => oL_open C T e5 ⟨e6, e7⟩ hin a0 x1 x2 a3 _
/-! ChaseLockerLaw.lock(LChaseLocker;I[J)I -/
def hxL_lock : List (String × Int32 × (Nat × Nat × Nat × Nat)) := [("java/lang/IllegalStateException", 1, (0, 9, 12, 20)), ("java/lang/IndexOutOfBoundsException", 2, (0, 9, 15, 13)), ("java/lang/IllegalArgumentException", 3, (0, 9, 18, 15))]
def fL_lock (a0 : Nat) (x1 : Int32) (a2 : Nat) (s0 : AS) : Option AR :=
  cH s0 a0 10 (fX6_lock a0 x1 s0) hxL_lock (qI (fun v1 s2 =>
  uJ s2 a2 0 (v1.toInt64) (fun s3 =>
  some (.inl (some (.int 0)), s3))))
theorem hXL_lock : ∀ z ∈ hxL_lock, ax_HX RL 4 4 cL_lock z := List.forall_mem_cons.mpr ⟨⟨by decide, by decide, kw_1074, by decide, 1, 1, Or.inr ⟨3, dL_lock_12, by decide, rfl⟩, dL_lock_13, rfl, dL_lock_14⟩, List.forall_mem_cons.mpr ⟨⟨by decide, by decide, kw_1068, by decide, 2, 1, Or.inr ⟨3, dL_lock_15, by decide, rfl⟩, dL_lock_16, rfl, dL_lock_17⟩, List.forall_mem_cons.mpr ⟨⟨by decide, by decide, kw_1069, by decide, 3, 1, Or.inr ⟨3, dL_lock_18, by decide, rfl⟩, dL_lock_19, rfl, dL_lock_20⟩, fun _ h => absurd h List.not_mem_nil⟩⟩⟩
set_option maxHeartbeats 4000000 in
theorem oL_lock {Γ : CX} (C : OKC Γ cL_lock RL (some (.int))) (T : (cx_c Γ).exceptionTable.toList = tableOf (hxL_lock.map fun z => z.2.2)) (hn : cx_nL Γ = 4) (hR : cx_fr Γ = 9 ∧ cx_lo Γ = 202) (hin : (cx_meth Γ).name = yL_lock.name) : ∀ (a0 : Nat) (x1 : Int32) (a2 : Nat) (s0 : AS), OK Γ 0 [(0, .ref a0), (1, .int x1), (2, .ref a2)] [] (fL_lock a0 x1 a2 s0) s0 := by
  intro a0 x1 a2 s0
  unfold fL_lock
  refine ok_aload_n C 2 dL_lock_0 rfl ?_
  refine ok_iconst C (v := 0) dL_lock_1 (by decide) ?_
  refine ok_aload_n C 0 dL_lock_2 rfl ?_
  refine ok_iload_n C 1 dL_lock_3 rfl ?_
  refine ok_callVH C hxL_lock (by rw [hn]; exact hXL_lock) T [.int x1] (F := fX6_lock a0 x1) (ctX6_lock (C.2.2.2.2.2.2.2.2.1) a0 x1) vlL_144 viX6_lock rfl rfl (by decide) rfl (by rw [hR.1, hR.2]; decide) (Nat.le_of_ble_eq_true rfl) dL_lock_4 (ok_qI fun v1 s2 => ?_)
  refine ok_i2l C dL_lock_7 ?_
  refine ok_last C dL_lock_8 (fun s3 _ => ?_)
  refine ok_goto C 21 dL_lock_9 (by decide) ?_
  refine ok_iconst C (v := 0) dL_lock_21 (by decide) ?_
  exact ok_ireturn C dL_lock_22
theorem ctL_lock {l : Launch} (hl : l.stackTraces = false) {D : va_G} {dA : Nat → ClassId} {B0 : Nat} (a0 : Nat) (x1 : Int32) (a2 : Nat) : Ct l D dA B0 yL_lock (.codeWith yL_lock cL_lock 4 (some (.int)) [(0, 9, 12, 20), (0, 9, 15, 13), (0, 9, 18, 15)] :: ax_ALL) 9 202 [.ref a0, .int x1, .ref a2] (fL_lock a0 x1 a2) :=
  Ct.ofW hl (by decide +kernel) (Nat.le_of_ble_eq_true rfl) fun Γ C _ _ _ _ e5 e6 e7 T hin => oL_lock C T e5 ⟨e6, e7⟩ hin a0 x1 a2 _
/-! ChaseLockerLaw.unlock(LChaseLocker;I[J)I -/
def hxL_unlock : List (String × Int32 × (Nat × Nat × Nat × Nat)) := [("java/lang/IllegalStateException", 1, (0, 9, 12, 20)), ("java/lang/IndexOutOfBoundsException", 2, (0, 9, 15, 13))]
def fL_unlock (a0 : Nat) (x1 : Int32) (a2 : Nat) (s0 : AS) : Option AR :=
  cH s0 a0 10 (fX6_unlock a0 x1 s0) hxL_unlock (qI (fun v1 s2 =>
  uJ s2 a2 0 (v1.toInt64) (fun s3 =>
  some (.inl (some (.int 0)), s3))))
theorem hXL_unlock : ∀ z ∈ hxL_unlock, ax_HX RL 4 4 cL_unlock z := List.forall_mem_cons.mpr ⟨⟨by decide, by decide, kw_1074, by decide, 1, 1, Or.inr ⟨3, dL_unlock_12, by decide, rfl⟩, dL_unlock_13, rfl, dL_unlock_14⟩, List.forall_mem_cons.mpr ⟨⟨by decide, by decide, kw_1068, by decide, 2, 1, Or.inr ⟨3, dL_unlock_15, by decide, rfl⟩, dL_unlock_16, rfl, dL_unlock_17⟩, fun _ h => absurd h List.not_mem_nil⟩⟩
set_option maxHeartbeats 4000000 in
theorem oL_unlock {Γ : CX} (C : OKC Γ cL_unlock RL (some (.int))) (T : (cx_c Γ).exceptionTable.toList = tableOf (hxL_unlock.map fun z => z.2.2)) (hn : cx_nL Γ = 4) (hR : cx_fr Γ = 9 ∧ cx_lo Γ = 187) (hin : (cx_meth Γ).name = yL_unlock.name) : ∀ (a0 : Nat) (x1 : Int32) (a2 : Nat) (s0 : AS), OK Γ 0 [(0, .ref a0), (1, .int x1), (2, .ref a2)] [] (fL_unlock a0 x1 a2 s0) s0 := by
  intro a0 x1 a2 s0
  unfold fL_unlock
  refine ok_aload_n C 2 dL_unlock_0 rfl ?_
  refine ok_iconst C (v := 0) dL_unlock_1 (by decide) ?_
  refine ok_aload_n C 0 dL_unlock_2 rfl ?_
  refine ok_iload_n C 1 dL_unlock_3 rfl ?_
  refine ok_callVH C hxL_unlock (by rw [hn]; exact hXL_unlock) T [.int x1] (F := fX6_unlock a0 x1) (ctX6_unlock (C.2.2.2.2.2.2.2.2.1) a0 x1) vlL_147 viX6_unlock rfl rfl (by decide) rfl (by rw [hR.1, hR.2]; decide) (Nat.le_of_ble_eq_true rfl) dL_unlock_4 (ok_qI fun v1 s2 => ?_)
  refine ok_i2l C dL_unlock_7 ?_
  refine ok_last C dL_unlock_8 (fun s3 _ => ?_)
  refine ok_goto C 18 dL_unlock_9 (by decide) ?_
  refine ok_iconst C (v := 0) dL_unlock_18 (by decide) ?_
  exact ok_ireturn C dL_unlock_19
theorem ctL_unlock {l : Launch} (hl : l.stackTraces = false) {D : va_G} {dA : Nat → ClassId} {B0 : Nat} (a0 : Nat) (x1 : Int32) (a2 : Nat) : Ct l D dA B0 yL_unlock (.codeWith yL_unlock cL_unlock 4 (some (.int)) [(0, 9, 12, 20), (0, 9, 15, 13)] :: ax_ALL) 9 187 [.ref a0, .int x1, .ref a2] (fL_unlock a0 x1 a2) :=
  Ct.ofW hl (by decide +kernel) (Nat.le_of_ble_eq_true rfl) fun Γ C _ _ _ _ e5 e6 e7 T hin => oL_unlock C T e5 ⟨e6, e7⟩ hin a0 x1 a2 _
/-! ChaseLockerLaw.relock(LChaseLocker;I[J)I -/
def hxL_relock : List (String × Int32 × (Nat × Nat × Nat × Nat)) := [("java/lang/IllegalStateException", 1, (0, 9, 12, 20)), ("java/lang/IndexOutOfBoundsException", 2, (0, 9, 15, 13)), ("java/lang/IllegalArgumentException", 3, (0, 9, 18, 15))]
def fL_relock (a0 : Nat) (x1 : Int32) (a2 : Nat) (s0 : AS) : Option AR :=
  cH s0 a0 10 (fX6_relock a0 x1 s0) hxL_relock (qI (fun v1 s2 =>
  uJ s2 a2 0 (v1.toInt64) (fun s3 =>
  some (.inl (some (.int 0)), s3))))
theorem hXL_relock : ∀ z ∈ hxL_relock, ax_HX RL 4 4 cL_relock z := List.forall_mem_cons.mpr ⟨⟨by decide, by decide, kw_1074, by decide, 1, 1, Or.inr ⟨3, dL_relock_12, by decide, rfl⟩, dL_relock_13, rfl, dL_relock_14⟩, List.forall_mem_cons.mpr ⟨⟨by decide, by decide, kw_1068, by decide, 2, 1, Or.inr ⟨3, dL_relock_15, by decide, rfl⟩, dL_relock_16, rfl, dL_relock_17⟩, List.forall_mem_cons.mpr ⟨⟨by decide, by decide, kw_1069, by decide, 3, 1, Or.inr ⟨3, dL_relock_18, by decide, rfl⟩, dL_relock_19, rfl, dL_relock_20⟩, fun _ h => absurd h List.not_mem_nil⟩⟩⟩
set_option maxHeartbeats 4000000 in
theorem oL_relock {Γ : CX} (C : OKC Γ cL_relock RL (some (.int))) (T : (cx_c Γ).exceptionTable.toList = tableOf (hxL_relock.map fun z => z.2.2)) (hn : cx_nL Γ = 4) (hR : cx_fr Γ = 9 ∧ cx_lo Γ = 201) (hin : (cx_meth Γ).name = yL_relock.name) : ∀ (a0 : Nat) (x1 : Int32) (a2 : Nat) (s0 : AS), OK Γ 0 [(0, .ref a0), (1, .int x1), (2, .ref a2)] [] (fL_relock a0 x1 a2 s0) s0 := by
  intro a0 x1 a2 s0
  unfold fL_relock
  refine ok_aload_n C 2 dL_relock_0 rfl ?_
  refine ok_iconst C (v := 0) dL_relock_1 (by decide) ?_
  refine ok_aload_n C 0 dL_relock_2 rfl ?_
  refine ok_iload_n C 1 dL_relock_3 rfl ?_
  refine ok_callVH C hxL_relock (by rw [hn]; exact hXL_relock) T [.int x1] (F := fX6_relock a0 x1) (ctX6_relock (C.2.2.2.2.2.2.2.2.1) a0 x1) vlL_150 viX6_relock rfl rfl (by decide) rfl (by rw [hR.1, hR.2]; decide) (Nat.le_of_ble_eq_true rfl) dL_relock_4 (ok_qI fun v1 s2 => ?_)
  refine ok_i2l C dL_relock_7 ?_
  refine ok_last C dL_relock_8 (fun s3 _ => ?_)
  refine ok_goto C 21 dL_relock_9 (by decide) ?_
  refine ok_iconst C (v := 0) dL_relock_21 (by decide) ?_
  exact ok_ireturn C dL_relock_22
theorem ctL_relock {l : Launch} (hl : l.stackTraces = false) {D : va_G} {dA : Nat → ClassId} {B0 : Nat} (a0 : Nat) (x1 : Int32) (a2 : Nat) : Ct l D dA B0 yL_relock (.codeWith yL_relock cL_relock 4 (some (.int)) [(0, 9, 12, 20), (0, 9, 15, 13), (0, 9, 18, 15)] :: ax_ALL) 9 201 [.ref a0, .int x1, .ref a2] (fL_relock a0 x1 a2) :=
  Ct.ofW hl (by decide +kernel) (Nat.le_of_ble_eq_true rfl) fun Γ C _ _ _ _ e5 e6 e7 T hin => oL_relock C T e5 ⟨e6, e7⟩ hin a0 x1 a2 _
/-! ChaseLockerLaw.tighten(LChaseLocker;I[J)I -/
def hxL_tighten : List (String × Int32 × (Nat × Nat × Nat × Nat)) := [("java/lang/IllegalStateException", 1, (0, 9, 12, 20)), ("java/lang/IndexOutOfBoundsException", 2, (0, 9, 15, 13)), ("java/lang/IllegalArgumentException", 3, (0, 9, 18, 15))]
def fL_tighten (a0 : Nat) (x1 : Int32) (a2 : Nat) (s0 : AS) : Option AR :=
  cH s0 a0 10 (fX6_tighten a0 x1 s0) hxL_tighten (qI (fun v1 s2 =>
  uJ s2 a2 0 (v1.toInt64) (fun s3 =>
  some (.inl (some (.int 0)), s3))))
theorem hXL_tighten : ∀ z ∈ hxL_tighten, ax_HX RL 4 4 cL_tighten z := List.forall_mem_cons.mpr ⟨⟨by decide, by decide, kw_1074, by decide, 1, 1, Or.inr ⟨3, dL_tighten_12, by decide, rfl⟩, dL_tighten_13, rfl, dL_tighten_14⟩, List.forall_mem_cons.mpr ⟨⟨by decide, by decide, kw_1068, by decide, 2, 1, Or.inr ⟨3, dL_tighten_15, by decide, rfl⟩, dL_tighten_16, rfl, dL_tighten_17⟩, List.forall_mem_cons.mpr ⟨⟨by decide, by decide, kw_1069, by decide, 3, 1, Or.inr ⟨3, dL_tighten_18, by decide, rfl⟩, dL_tighten_19, rfl, dL_tighten_20⟩, fun _ h => absurd h List.not_mem_nil⟩⟩⟩
set_option maxHeartbeats 4000000 in
theorem oL_tighten {Γ : CX} (C : OKC Γ cL_tighten RL (some (.int))) (T : (cx_c Γ).exceptionTable.toList = tableOf (hxL_tighten.map fun z => z.2.2)) (hn : cx_nL Γ = 4) (hR : cx_fr Γ = 9 ∧ cx_lo Γ = 186) (hin : (cx_meth Γ).name = yL_tighten.name) : ∀ (a0 : Nat) (x1 : Int32) (a2 : Nat) (s0 : AS), OK Γ 0 [(0, .ref a0), (1, .int x1), (2, .ref a2)] [] (fL_tighten a0 x1 a2 s0) s0 := by
  intro a0 x1 a2 s0
  unfold fL_tighten
  refine ok_aload_n C 2 dL_tighten_0 rfl ?_
  refine ok_iconst C (v := 0) dL_tighten_1 (by decide) ?_
  refine ok_aload_n C 0 dL_tighten_2 rfl ?_
  refine ok_iload_n C 1 dL_tighten_3 rfl ?_
  refine ok_callVH C hxL_tighten (by rw [hn]; exact hXL_tighten) T [.int x1] (F := fX6_tighten a0 x1) (ctX6_tighten (C.2.2.2.2.2.2.2.2.1) a0 x1) vlL_153 viX6_tighten rfl rfl (by decide) rfl (by rw [hR.1, hR.2]; decide) (Nat.le_of_ble_eq_true rfl) dL_tighten_4 (ok_qI fun v1 s2 => ?_)
  refine ok_i2l C dL_tighten_7 ?_
  refine ok_last C dL_tighten_8 (fun s3 _ => ?_)
  refine ok_goto C 21 dL_tighten_9 (by decide) ?_
  refine ok_iconst C (v := 0) dL_tighten_21 (by decide) ?_
  exact ok_ireturn C dL_tighten_22
theorem ctL_tighten {l : Launch} (hl : l.stackTraces = false) {D : va_G} {dA : Nat → ClassId} {B0 : Nat} (a0 : Nat) (x1 : Int32) (a2 : Nat) : Ct l D dA B0 yL_tighten (.codeWith yL_tighten cL_tighten 4 (some (.int)) [(0, 9, 12, 20), (0, 9, 15, 13), (0, 9, 18, 15)] :: ax_ALL) 9 186 [.ref a0, .int x1, .ref a2] (fL_tighten a0 x1 a2) :=
  Ct.ofW hl (by decide +kernel) (Nat.le_of_ble_eq_true rfl) fun Γ C _ _ _ _ e5 e6 e7 T hin => oL_tighten C T e5 ⟨e6, e7⟩ hin a0 x1 a2 _
/-! ChaseLockerLaw.print(LChaseLocker;I[J)I -/
def hxL_print : List (String × Int32 × (Nat × Nat × Nat × Nat)) := [("java/lang/IllegalStateException", 1, (0, 9, 12, 20)), ("java/lang/IllegalArgumentException", 2, (0, 9, 15, 15))]
def fL_print (a0 : Nat) (x1 : Int32) (a2 : Nat) (s0 : AS) : Option AR :=
  cH s0 a0 10 (fX6_print a0 x1 s0) hxL_print (qI (fun v1 s2 =>
  uJ s2 a2 0 (v1.toInt64) (fun s3 =>
  some (.inl (some (.int 0)), s3))))
theorem hXL_print : ∀ z ∈ hxL_print, ax_HX RL 4 4 cL_print z := List.forall_mem_cons.mpr ⟨⟨by decide, by decide, kw_1074, by decide, 1, 1, Or.inr ⟨3, dL_print_12, by decide, rfl⟩, dL_print_13, rfl, dL_print_14⟩, List.forall_mem_cons.mpr ⟨⟨by decide, by decide, kw_1069, by decide, 2, 1, Or.inr ⟨3, dL_print_15, by decide, rfl⟩, dL_print_16, rfl, dL_print_17⟩, fun _ h => absurd h List.not_mem_nil⟩⟩
set_option maxHeartbeats 4000000 in
theorem oL_print {Γ : CX} (C : OKC Γ cL_print RL (some (.int))) (T : (cx_c Γ).exceptionTable.toList = tableOf (hxL_print.map fun z => z.2.2)) (hn : cx_nL Γ = 4) (hR : cx_fr Γ = 8 ∧ cx_lo Γ = 214) (hin : (cx_meth Γ).name = yL_print.name) : ∀ (a0 : Nat) (x1 : Int32) (a2 : Nat) (s0 : AS), OK Γ 0 [(0, .ref a0), (1, .int x1), (2, .ref a2)] [] (fL_print a0 x1 a2 s0) s0 := by
  intro a0 x1 a2 s0
  unfold fL_print
  refine ok_aload_n C 2 dL_print_0 rfl ?_
  refine ok_iconst C (v := 0) dL_print_1 (by decide) ?_
  refine ok_aload_n C 0 dL_print_2 rfl ?_
  refine ok_iload_n C 1 dL_print_3 rfl ?_
  refine ok_callVH C hxL_print (by rw [hn]; exact hXL_print) T [.int x1] (F := fX6_print a0 x1) (ctX6_print (C.2.2.2.2.2.2.2.2.1) a0 x1) vlL_156 viX6_print rfl rfl (by decide) rfl (by rw [hR.1, hR.2]; decide) (Nat.le_of_ble_eq_true rfl) dL_print_4 (ok_qI fun v1 s2 => ?_)
  refine ok_i2l C dL_print_7 ?_
  refine ok_last C dL_print_8 (fun s3 _ => ?_)
  refine ok_goto C 18 dL_print_9 (by decide) ?_
  refine ok_iconst C (v := 0) dL_print_18 (by decide) ?_
  exact ok_ireturn C dL_print_19
theorem ctL_print {l : Launch} (hl : l.stackTraces = false) {D : va_G} {dA : Nat → ClassId} {B0 : Nat} (a0 : Nat) (x1 : Int32) (a2 : Nat) : Ct l D dA B0 yL_print (.codeWith yL_print cL_print 4 (some (.int)) [(0, 9, 12, 20), (0, 9, 15, 15)] :: ax_ALL) 8 214 [.ref a0, .int x1, .ref a2] (fL_print a0 x1 a2) :=
  Ct.ofW hl (by decide +kernel) (Nat.le_of_ble_eq_true rfl) fun Γ C _ _ _ _ e5 e6 e7 T hin => oL_print C T e5 ⟨e6, e7⟩ hin a0 x1 a2 _
/-! ChaseLockerLaw.rest(LChaseLocker;I[J)I -/
def hxL_rest : List (String × Int32 × (Nat × Nat × Nat × Nat)) := [("java/lang/IllegalStateException", 1, (0, 9, 12, 20)), ("java/lang/IllegalArgumentException", 2, (0, 9, 15, 15))]
def fL_rest (a0 : Nat) (x1 : Int32) (a2 : Nat) (s0 : AS) : Option AR :=
  cH s0 a0 10 (fX6_rest a0 x1 s0) hxL_rest (qI (fun v1 s2 =>
  uJ s2 a2 0 (v1.toInt64) (fun s3 =>
  some (.inl (some (.int 0)), s3))))
theorem hXL_rest : ∀ z ∈ hxL_rest, ax_HX RL 4 4 cL_rest z := List.forall_mem_cons.mpr ⟨⟨by decide, by decide, kw_1074, by decide, 1, 1, Or.inr ⟨3, dL_rest_12, by decide, rfl⟩, dL_rest_13, rfl, dL_rest_14⟩, List.forall_mem_cons.mpr ⟨⟨by decide, by decide, kw_1069, by decide, 2, 1, Or.inr ⟨3, dL_rest_15, by decide, rfl⟩, dL_rest_16, rfl, dL_rest_17⟩, fun _ h => absurd h List.not_mem_nil⟩⟩
set_option maxHeartbeats 4000000 in
theorem oL_rest {Γ : CX} (C : OKC Γ cL_rest RL (some (.int))) (T : (cx_c Γ).exceptionTable.toList = tableOf (hxL_rest.map fun z => z.2.2)) (hn : cx_nL Γ = 4) (hR : cx_fr Γ = 8 ∧ cx_lo Γ = 192) (hin : (cx_meth Γ).name = yL_rest.name) : ∀ (a0 : Nat) (x1 : Int32) (a2 : Nat) (s0 : AS), OK Γ 0 [(0, .ref a0), (1, .int x1), (2, .ref a2)] [] (fL_rest a0 x1 a2 s0) s0 := by
  intro a0 x1 a2 s0
  unfold fL_rest
  refine ok_aload_n C 2 dL_rest_0 rfl ?_
  refine ok_iconst C (v := 0) dL_rest_1 (by decide) ?_
  refine ok_aload_n C 0 dL_rest_2 rfl ?_
  refine ok_iload_n C 1 dL_rest_3 rfl ?_
  refine ok_callVH C hxL_rest (by rw [hn]; exact hXL_rest) T [.int x1] (F := fX6_rest a0 x1) (ctX6_rest (C.2.2.2.2.2.2.2.2.1) a0 x1) vlL_159 viX6_rest rfl rfl (by decide) rfl (by rw [hR.1, hR.2]; decide) (Nat.le_of_ble_eq_true rfl) dL_rest_4 (ok_qI fun v1 s2 => ?_)
  refine ok_i2l C dL_rest_7 ?_
  refine ok_last C dL_rest_8 (fun s3 _ => ?_)
  refine ok_goto C 18 dL_rest_9 (by decide) ?_
  refine ok_iconst C (v := 0) dL_rest_18 (by decide) ?_
  exact ok_ireturn C dL_rest_19
theorem ctL_rest {l : Launch} (hl : l.stackTraces = false) {D : va_G} {dA : Nat → ClassId} {B0 : Nat} (a0 : Nat) (x1 : Int32) (a2 : Nat) : Ct l D dA B0 yL_rest (.codeWith yL_rest cL_rest 4 (some (.int)) [(0, 9, 12, 20), (0, 9, 15, 15)] :: ax_ALL) 8 192 [.ref a0, .int x1, .ref a2] (fL_rest a0 x1 a2) :=
  Ct.ofW hl (by decide +kernel) (Nat.le_of_ble_eq_true rfl) fun Γ C _ _ _ _ e5 e6 e7 T hin => oL_rest C T e5 ⟨e6, e7⟩ hin a0 x1 a2 _
/-! ChaseLockerLaw.buy(LChaseLocker;II[J)I -/
def hxL_buy : List (String × Int32 × (Nat × Nat × Nat × Nat)) := [("java/lang/IllegalStateException", 1, (0, 10, 13, 20)), ("java/lang/IndexOutOfBoundsException", 2, (0, 10, 17, 13)), ("java/lang/IllegalArgumentException", 3, (0, 10, 21, 15))]
def fL_buy (a0 : Nat) (x1 : Int32) (x2 : Int32) (a3 : Nat) (s0 : AS) : Option AR :=
  cH s0 a0 10 (fX6_buy a0 x1 x2 s0) hxL_buy (qI (fun v1 s2 =>
  uJ s2 a3 0 (v1.toInt64) (fun s3 =>
  some (.inl (some (.int 0)), s3))))
theorem hXL_buy : ∀ z ∈ hxL_buy, ax_HX RL 5 5 cL_buy z := List.forall_mem_cons.mpr ⟨⟨by decide, by decide, kw_1074, by decide, 1, 2, Or.inl ⟨4, dL_buy_13, by decide, rfl⟩, dL_buy_15, rfl, dL_buy_16⟩, List.forall_mem_cons.mpr ⟨⟨by decide, by decide, kw_1068, by decide, 2, 2, Or.inl ⟨4, dL_buy_17, by decide, rfl⟩, dL_buy_19, rfl, dL_buy_20⟩, List.forall_mem_cons.mpr ⟨⟨by decide, by decide, kw_1069, by decide, 3, 2, Or.inl ⟨4, dL_buy_21, by decide, rfl⟩, dL_buy_23, rfl, dL_buy_24⟩, fun _ h => absurd h List.not_mem_nil⟩⟩⟩
set_option maxHeartbeats 4000000 in
theorem oL_buy {Γ : CX} (C : OKC Γ cL_buy RL (some (.int))) (T : (cx_c Γ).exceptionTable.toList = tableOf (hxL_buy.map fun z => z.2.2)) (hn : cx_nL Γ = 5) (hR : cx_fr Γ = 8 ∧ cx_lo Γ = 186) (hin : (cx_meth Γ).name = yL_buy.name) : ∀ (a0 : Nat) (x1 : Int32) (x2 : Int32) (a3 : Nat) (s0 : AS), OK Γ 0 [(0, .ref a0), (1, .int x1), (2, .int x2), (3, .ref a3)] [] (fL_buy a0 x1 x2 a3 s0) s0 := by
  intro a0 x1 x2 a3 s0
  unfold fL_buy
  refine ok_aload_n C 3 dL_buy_0 rfl ?_
  refine ok_iconst C (v := 0) dL_buy_1 (by decide) ?_
  refine ok_aload_n C 0 dL_buy_2 rfl ?_
  refine ok_iload_n C 1 dL_buy_3 rfl ?_
  refine ok_iload_n C 2 dL_buy_4 rfl ?_
  refine ok_callVH C hxL_buy (by rw [hn]; exact hXL_buy) T [.int x1, .int x2] (F := fX6_buy a0 x1 x2) (ctX6_buy (C.2.2.2.2.2.2.2.2.1) a0 x1 x2) vlL_162 viX6_buy rfl rfl (by decide) rfl (by rw [hR.1, hR.2]; decide) (Nat.le_of_ble_eq_true rfl) dL_buy_5 (ok_qI fun v1 s2 => ?_)
  refine ok_i2l C dL_buy_8 ?_
  refine ok_last C dL_buy_9 (fun s3 _ => ?_)
  refine ok_goto C 25 dL_buy_10 (by decide) ?_
  refine ok_iconst C (v := 0) dL_buy_25 (by decide) ?_
  exact ok_ireturn C dL_buy_26
theorem ctL_buy {l : Launch} (hl : l.stackTraces = false) {D : va_G} {dA : Nat → ClassId} {B0 : Nat} (a0 : Nat) (x1 : Int32) (x2 : Int32) (a3 : Nat) : Ct l D dA B0 yL_buy (.codeWith yL_buy cL_buy 5 (some (.int)) [(0, 10, 13, 20), (0, 10, 17, 13), (0, 10, 21, 15)] :: ax_ALL) 8 186 [.ref a0, .int x1, .int x2, .ref a3] (fL_buy a0 x1 x2 a3) :=
  Ct.ofW hl (by decide +kernel) (Nat.le_of_ble_eq_true rfl) fun Γ C _ _ _ _ e5 e6 e7 T hin => oL_buy C T e5 ⟨e6, e7⟩ hin a0 x1 x2 a3 _
/-! ChaseLockerLaw.undo(LChaseLocker;[J)I -/
def hxL_undo : List (String × Int32 × (Nat × Nat × Nat × Nat)) := [("java/lang/IllegalStateException", 1, (0, 8, 11, 20))]
def fL_undo (a0 : Nat) (a1 : Nat) (s0 : AS) : Option AR :=
  cH s0 a0 10 (fX6_undo a0 s0) hxL_undo (qI (fun v1 s2 =>
  uJ s2 a1 0 (v1.toInt64) (fun s3 =>
  some (.inl (some (.int 0)), s3))))
theorem hXL_undo : ∀ z ∈ hxL_undo, ax_HX RL 3 3 cL_undo z := List.forall_mem_cons.mpr ⟨⟨by decide, by decide, kw_1074, by decide, 1, 1, Or.inr ⟨2, dL_undo_11, by decide, rfl⟩, dL_undo_12, rfl, dL_undo_13⟩, fun _ h => absurd h List.not_mem_nil⟩
set_option maxHeartbeats 4000000 in
theorem oL_undo {Γ : CX} (C : OKC Γ cL_undo RL (some (.int))) (T : (cx_c Γ).exceptionTable.toList = tableOf (hxL_undo.map fun z => z.2.2)) (hn : cx_nL Γ = 3) (hR : cx_fr Γ = 7 ∧ cx_lo Γ = 184) (hin : (cx_meth Γ).name = yL_undo.name) : ∀ (a0 : Nat) (a1 : Nat) (s0 : AS), OK Γ 0 [(0, .ref a0), (1, .ref a1)] [] (fL_undo a0 a1 s0) s0 := by
  intro a0 a1 s0
  unfold fL_undo
  refine ok_aload_n C 1 dL_undo_0 rfl ?_
  refine ok_iconst C (v := 0) dL_undo_1 (by decide) ?_
  refine ok_aload_n C 0 dL_undo_2 rfl ?_
  refine ok_callVH C hxL_undo (by rw [hn]; exact hXL_undo) T [] (F := fX6_undo a0) (ctX6_undo (C.2.2.2.2.2.2.2.2.1) a0) vlL_165 viX6_undo rfl rfl (by decide) rfl (by rw [hR.1, hR.2]; decide) (Nat.le_of_ble_eq_true rfl) dL_undo_3 (ok_qI fun v1 s2 => ?_)
  refine ok_i2l C dL_undo_6 ?_
  refine ok_last C dL_undo_7 (fun s3 _ => ?_)
  refine ok_goto C 14 dL_undo_8 (by decide) ?_
  refine ok_iconst C (v := 0) dL_undo_14 (by decide) ?_
  exact ok_ireturn C dL_undo_15
theorem ctL_undo {l : Launch} (hl : l.stackTraces = false) {D : va_G} {dA : Nat → ClassId} {B0 : Nat} (a0 : Nat) (a1 : Nat) : Ct l D dA B0 yL_undo (.codeWith yL_undo cL_undo 3 (some (.int)) [(0, 8, 11, 20)] :: ax_ALL) 7 184 [.ref a0, .ref a1] (fL_undo a0 a1) :=
  Ct.ofW hl (by decide +kernel) (Nat.le_of_ble_eq_true rfl) fun Γ C _ _ _ _ e5 e6 e7 T hin => oL_undo C T e5 ⟨e6, e7⟩ hin a0 a1 _
/-! ChaseLockerLaw.save(LChaseLocker;I[J)I -/
def hxL_save : List (String × Int32 × (Nat × Nat × Nat × Nat)) := [("java/lang/IllegalStateException", 1, (0, 9, 12, 20)), ("java/lang/IndexOutOfBoundsException", 2, (0, 9, 15, 13))]
def fL_save (a0 : Nat) (x1 : Int32) (a2 : Nat) (s0 : AS) : Option AR :=
  cH s0 a0 10 (fX6_save a0 x1 s0) hxL_save (qI (fun v1 s2 =>
  uJ s2 a2 0 (v1.toInt64) (fun s3 =>
  some (.inl (some (.int 0)), s3))))
theorem hXL_save : ∀ z ∈ hxL_save, ax_HX RL 4 4 cL_save z := List.forall_mem_cons.mpr ⟨⟨by decide, by decide, kw_1074, by decide, 1, 1, Or.inr ⟨3, dL_save_12, by decide, rfl⟩, dL_save_13, rfl, dL_save_14⟩, List.forall_mem_cons.mpr ⟨⟨by decide, by decide, kw_1068, by decide, 2, 1, Or.inr ⟨3, dL_save_15, by decide, rfl⟩, dL_save_16, rfl, dL_save_17⟩, fun _ h => absurd h List.not_mem_nil⟩⟩
set_option maxHeartbeats 4000000 in
theorem oL_save {Γ : CX} (C : OKC Γ cL_save RL (some (.int))) (T : (cx_c Γ).exceptionTable.toList = tableOf (hxL_save.map fun z => z.2.2)) (hn : cx_nL Γ = 4) (hR : cx_fr Γ = 8 ∧ cx_lo Γ = 164) (hin : (cx_meth Γ).name = yL_save.name) : ∀ (a0 : Nat) (x1 : Int32) (a2 : Nat) (s0 : AS), OK Γ 0 [(0, .ref a0), (1, .int x1), (2, .ref a2)] [] (fL_save a0 x1 a2 s0) s0 := by
  intro a0 x1 a2 s0
  unfold fL_save
  refine ok_aload_n C 2 dL_save_0 rfl ?_
  refine ok_iconst C (v := 0) dL_save_1 (by decide) ?_
  refine ok_aload_n C 0 dL_save_2 rfl ?_
  refine ok_iload_n C 1 dL_save_3 rfl ?_
  refine ok_callVH C hxL_save (by rw [hn]; exact hXL_save) T [.int x1] (F := fX6_save a0 x1) (ctX6_save (C.2.2.2.2.2.2.2.2.1) a0 x1) vlL_168 viX6_save rfl rfl (by decide) rfl (by rw [hR.1, hR.2]; decide) (Nat.le_of_ble_eq_true rfl) dL_save_4 (ok_qI fun v1 s2 => ?_)
  refine ok_i2l C dL_save_7 ?_
  refine ok_last C dL_save_8 (fun s3 _ => ?_)
  refine ok_goto C 18 dL_save_9 (by decide) ?_
  refine ok_iconst C (v := 0) dL_save_18 (by decide) ?_
  exact ok_ireturn C dL_save_19
theorem ctL_save {l : Launch} (hl : l.stackTraces = false) {D : va_G} {dA : Nat → ClassId} {B0 : Nat} (a0 : Nat) (x1 : Int32) (a2 : Nat) : Ct l D dA B0 yL_save (.codeWith yL_save cL_save 4 (some (.int)) [(0, 9, 12, 20), (0, 9, 15, 13)] :: ax_ALL) 8 164 [.ref a0, .int x1, .ref a2] (fL_save a0 x1 a2) :=
  Ct.ofW hl (by decide +kernel) (Nat.le_of_ble_eq_true rfl) fun Γ C _ _ _ _ e5 e6 e7 T hin => oL_save C T e5 ⟨e6, e7⟩ hin a0 x1 a2 _
/-! ChaseLockerLaw.restore(LChaseLocker;I[J)I -/
def hxL_restore : List (String × Int32 × (Nat × Nat × Nat × Nat)) := [("java/lang/IndexOutOfBoundsException", 1, (0, 9, 12, 13)), ("java/lang/IllegalStateException", 2, (0, 9, 15, 20))]
def fL_restore (a0 : Nat) (x1 : Int32) (a2 : Nat) (s0 : AS) : Option AR :=
  cH s0 a0 10 (fX6_restore a0 x1 s0) hxL_restore (qI (fun v1 s2 =>
  uJ s2 a2 0 (v1.toInt64) (fun s3 =>
  some (.inl (some (.int 0)), s3))))
theorem hXL_restore : ∀ z ∈ hxL_restore, ax_HX RL 4 4 cL_restore z := List.forall_mem_cons.mpr ⟨⟨by decide, by decide, kw_1068, by decide, 1, 1, Or.inr ⟨3, dL_restore_12, by decide, rfl⟩, dL_restore_13, rfl, dL_restore_14⟩, List.forall_mem_cons.mpr ⟨⟨by decide, by decide, kw_1074, by decide, 2, 1, Or.inr ⟨3, dL_restore_15, by decide, rfl⟩, dL_restore_16, rfl, dL_restore_17⟩, fun _ h => absurd h List.not_mem_nil⟩⟩
set_option maxHeartbeats 4000000 in
theorem oL_restore {Γ : CX} (C : OKC Γ cL_restore RL (some (.int))) (T : (cx_c Γ).exceptionTable.toList = tableOf (hxL_restore.map fun z => z.2.2)) (hn : cx_nL Γ = 4) (hR : cx_fr Γ = 8 ∧ cx_lo Γ = 164) (hin : (cx_meth Γ).name = yL_restore.name) : ∀ (a0 : Nat) (x1 : Int32) (a2 : Nat) (s0 : AS), OK Γ 0 [(0, .ref a0), (1, .int x1), (2, .ref a2)] [] (fL_restore a0 x1 a2 s0) s0 := by
  intro a0 x1 a2 s0
  unfold fL_restore
  refine ok_aload_n C 2 dL_restore_0 rfl ?_
  refine ok_iconst C (v := 0) dL_restore_1 (by decide) ?_
  refine ok_aload_n C 0 dL_restore_2 rfl ?_
  refine ok_iload_n C 1 dL_restore_3 rfl ?_
  refine ok_callVH C hxL_restore (by rw [hn]; exact hXL_restore) T [.int x1] (F := fX6_restore a0 x1) (ctX6_restore (C.2.2.2.2.2.2.2.2.1) a0 x1) vlL_171 viX6_restore rfl rfl (by decide) rfl (by rw [hR.1, hR.2]; decide) (Nat.le_of_ble_eq_true rfl) dL_restore_4 (ok_qI fun v1 s2 => ?_)
  refine ok_i2l C dL_restore_7 ?_
  refine ok_last C dL_restore_8 (fun s3 _ => ?_)
  refine ok_goto C 18 dL_restore_9 (by decide) ?_
  refine ok_iconst C (v := 0) dL_restore_18 (by decide) ?_
  exact ok_ireturn C dL_restore_19
theorem ctL_restore {l : Launch} (hl : l.stackTraces = false) {D : va_G} {dA : Nat → ClassId} {B0 : Nat} (a0 : Nat) (x1 : Int32) (a2 : Nat) : Ct l D dA B0 yL_restore (.codeWith yL_restore cL_restore 4 (some (.int)) [(0, 9, 12, 13), (0, 9, 15, 20)] :: ax_ALL) 8 164 [.ref a0, .int x1, .ref a2] (fL_restore a0 x1 a2) :=
  Ct.ofW hl (by decide +kernel) (Nat.le_of_ble_eq_true rfl) fun Γ C _ _ _ _ e5 e6 e7 T hin => oL_restore C T e5 ⟨e6, e7⟩ hin a0 x1 a2 _
