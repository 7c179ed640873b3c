/-! TEXTS, II: one byte, one number; on both sides -/
abbrev BY (A : AI) (tv cap : Nat) : Prop := ∀ k, 0 ≤ k → k < (cap : Int) → 0 ≤ A tv k ∧ A tv k ≤ 127
theorem BY.u1 {A : AI} {tv cap : Nat} (h : BY A tv cap) (b : Nat) (z v : Int) (hv : 0 ≤ v ∧ v ≤ 127) : BY (up A b z v) tv cap := fun k a d => by
  unfold up
  split
  · exact hv
  · exact h k a d
theorem BY.u2 {A : AI} {tv cap : Nat} (h : BY A tv cap) (b : Nat) (z v : Int) (hb : b ≠ tv) : BY (up A b z v) tv cap := fun k a d => by
  rw [up_n _ _ _ _ _ _ (fun e => hb e.1.symm)]
  exact h k a d
section TX2
variable {c c' c2 : CC} {A A' A2 : AI} {J J' J2 : JI} {pl sp tv cap tv' cap' tv2 cap2 : Nat} {p : TP}
theorem GLb.ne_tv {B b : Nat} (hL : GLb B c c' cap cap' A A' J J') (hk' : isSB c' B tv' cap') (q : b < c.2.2.1) (e : c.1 B 0 ≠ some b) : b ≠ tv' := by
  intro x
  have e1 : c'.1 B 0 = some tv' := hk'.2.1
  rcases hL.2.2.2.2.2 with y | ⟨t, ht, y⟩
  · exact e (by rw [← y, e1, x])
  · rw [e1] at y
    cases y
    omega
theorem u_lat {B : Nat} (hk : isSB c B tv cap) (a1 : A B 1 = 0) : fJ5_isLatin1_aae02 B (CW c A J) = some (Sum.inl (some (Value.int (ii (1)))), CW c A J) := by
  simp (disch := first | assumption | omega) only [fJ5_isLatin1_aae02, vbI1 hk, a1, ↓reduceIte, tr_lt, fa_lt, tr_le, fa_le, tr_eq, fa_eq, and_true, true_and, and_false, false_and, il0, il1, il2, il3, il4, il5, il6, il7, il8, il9, il10, il11, il12, il15, il16, il20, il24, il31, il32, il44, il45, il48, il50, il57, il58, il59, il63, il91, il93, il97, il99, il100, il109, il113, il119, il120, il122, il200, il255, il480, il500, il501, il512, il999, il4112, il41120, il1000000, il1000003, ii_add, ii_sub, ii_mul, ii_neg, ii_le, ii_lt, ii_eq, ii_div, q_I, q_V, q_R, lt_q, rZ_q, md_M, md_16, md_4, md_8, md_10, if_true, if_false, if_pos, if_neg]
theorem u_app {B : Nat} (h : TG c A B tv cap p) (ch : Int) (hc : 0 ≤ ch ∧ ch ≤ 127) (hp : p.1 ≤ 2950) : ∃ (c' : CC) (A' : AI) (J' : JI) (tv' cap' : Nat), fJ4_append_cf468 B (ii ch) (CW c A J) = some (.inl (some (.ref B)), CW c' A' J') ∧ TG c' A' B tv' cap' (tC ch p) ∧ GLb B c c' cap cap' A A' J J' := by
  have hk := h.1
  have b3 := h.2.1.1
  have b0 := h.2.2.1.1
  obtain ⟨c', A', J', tv', cap', e1, ⟨hk', ⟨a3, a1⟩, ⟨l0, l1, l2, l3, l4⟩, ht, hb⟩, hm, hL⟩ := u_ens (J := J) h (p.1 + 1) (by omega)
  have hne : tv' ≠ B := hk'.2.2.2
  have hil := u_lat (J := J') hk' a1
  have hce : ∀ W : AS, fJ1_canEncode_fc78d (ii ch) W = some (Sum.inl (some (Value.int (ii (1)))), W) := fun W => by simp (disch := first | assumption | omega) only [fJ1_canEncode_fc78d, ↓reduceIte, tr_lt, fa_lt, tr_le, fa_le, tr_eq, fa_eq, and_true, true_and, and_false, false_and, il0, il1, il2, il3, il4, il5, il6, il7, il8, il9, il10, il11, il12, il15, il16, il20, il24, il31, il32, il44, il45, il48, il50, il57, il58, il59, il63, il91, il93, il97, il99, il100, il109, il113, il119, il120, il122, il200, il255, il480, il500, il501, il512, il999, il4112, il41120, il1000000, il1000003, ii_add, ii_sub, ii_mul, ii_neg, ii_le, ii_lt, ii_eq, ii_div, q_I, q_V, q_R, lt_q, rZ_q, md_M, md_16, md_4, md_8, md_10, if_true, if_false, if_pos, if_neg]
  have n1 : ¬ ii 1 = (0 : Int32) := by decide
  have hap : fJ5_append_3fe6f B (ii ch) (CW c A J) = some (.inl (some (.ref B)), CW c' (up (up A' B 3 (p.1 + 1)) tv' p.1 ch) J') := by
    rw [fJ5_append_3fe6f, vbI3 hk, b3, il1, ii_add, vbV hk, e1, k_Cl hL.1, q_V, vbV hk', hil, k_C, q_I, if_neg n1, hce, k_C, q_I, if_neg n1, vbR0 hk', vbI3 hk', a3, ii_add, vbS3 hk', b_i8 ch hc, k_uB hk'.2.2.1 p.1 ch (by omega) hc]
  refine ⟨c', up (up A' B 3 (p.1 + 1)) tv' p.1 ch, J', tv', cap', ?_, ⟨hk', ⟨?_, ?_⟩, ⟨by show 0 ≤ p.1 + 1; omega, by show p.1 + 1 ≤ _; omega, l2, l3, l4⟩, fun k a b => ?_, BY.u1 (BY.u2 hb _ _ _ (fun e => hne e.symm)) _ _ _ hc⟩, ⟨hL.1, hL.2.1, hL.2.2.1, fun b z q w e => ?_, hL.2.2.2.2⟩⟩
  · rw [fJ4_append_cf468, vbV hk, hap, k_Cl hL.1, q_R]
  · rw [up_n _ _ _ _ _ _ (fun e => hne e.1.symm), up_s]; rfl
  · rw [up_n _ _ _ _ _ _ (fun e => hne e.1.symm), up_n _ _ _ _ _ _ (by omega)]; exact a1
  · have b' : k < p.1 + 1 := b
    show _ = gu p.2 p.1 ch k
    by_cases q : k = p.1
    · rw [q, up_s, gu_s]
    · rw [up_n _ _ _ _ _ _ (fun e => q e.2), up_n _ _ _ _ _ _ (fun e => hne e.1), gu_n _ _ _ _ q]
      exact ht k a (by omega)
  · have hbt := GLb.ne_tv hL hk' q e
    rw [up_n _ _ _ _ _ _ (fun x => hbt x.1), up_n _ _ _ _ _ _ (fun x => w x.1)]; exact hL.2.2.2.1 b z q w e
theorem t_size (v : Int) (hv : 0 ≤ v ∧ v < 10000) (W : AS) : fJ6_stringSize_0f7a4 (ii v) W = some (Sum.inl (some (Value.int (ii (nd v)))), W) := by
  obtain ⟨n, hn⟩ : ∃ n, FU = n + 1 + 1 + 1 + 1 + 1 + 1 := ⟨99999994, rfl⟩
  have st : ∀ (n : Nat) (q i q' i' : Int), (-v ≤ q ∧ -1000000 ≤ q ∧ q < 0) → (0 ≤ i ∧ i < 10) → 10 * q = q' → i + 1 = i' → fJ6_stringSize_0f7a4_16 (n + 1) (ii (-v)) (ii 0) (ii q) (ii i) W = fJ6_stringSize_0f7a4_16 n (ii (-v)) (ii 0) (ii q') (ii i') W := by
    intro n q i q' i' h1 h2 h3 h4
    simp (disch := first | assumption | omega) only [fJ6_stringSize_0f7a4_16, h3, h4, ↓reduceIte, tr_lt, fa_lt, tr_le, fa_le, tr_eq, fa_eq, and_true, true_and, and_false, false_and, il0, il1, il2, il3, il4, il5, il6, il7, il8, il9, il10, il11, il12, il15, il16, il20, il24, il31, il32, il44, il45, il48, il50, il57, il58, il59, il63, il91, il93, il97, il99, il100, il109, il113, il119, il120, il122, il200, il255, il480, il500, il501, il512, il999, il4112, il41120, il1000000, il1000003, ii_add, ii_sub, ii_mul, ii_neg, ii_le, ii_lt, ii_eq, ii_div, q_I, q_V, q_R, lt_q, rZ_q, md_M, md_16, md_4, md_8, md_10, if_true, if_false, if_pos, if_neg]
  have en : ∀ (n : Nat) (q i : Int), (¬ -v ≤ q ∧ -1000000 ≤ q ∧ q < 0) → (0 ≤ i ∧ i < 10) → fJ6_stringSize_0f7a4_16 (n + 1) (ii (-v)) (ii 0) (ii q) (ii i) W = some (Sum.inl (some (Value.int (ii (i)))), W) := by
    intro n q i h1 h2
    simp (disch := first | assumption | omega) only [fJ6_stringSize_0f7a4_16, Int.add_zero, ↓reduceIte, tr_lt, fa_lt, tr_le, fa_le, tr_eq, fa_eq, and_true, true_and, and_false, false_and, il0, il1, il2, il3, il4, il5, il6, il7, il8, il9, il10, il11, il12, il15, il16, il20, il24, il31, il32, il44, il45, il48, il50, il57, il58, il59, il63, il91, il93, il97, il99, il100, il109, il113, il119, il120, il122, il200, il255, il480, il500, il501, il512, il999, il4112, il41120, il1000000, il1000003, ii_add, ii_sub, ii_mul, ii_neg, ii_le, ii_lt, ii_eq, ii_div, q_I, q_V, q_R, lt_q, rZ_q, md_M, md_16, md_4, md_8, md_10, if_true, if_false, if_pos, if_neg]
  have e0 : fJ6_stringSize_0f7a4 (ii v) W = fJ6_stringSize_0f7a4_16 FU (ii (-v)) (ii 0) (ii (-10)) (ii 1) W := by
    rw [fJ6_stringSize_0f7a4, il0, if_neg (by rw [ii_lt _ _ (by omega)]; omega), ii_neg, lt_q, fJ6_stringSize_0f7a4_11, lt_q]
    rfl
  rw [e0, hn]
  by_cases q1 : v < 10
  · rw [nd_e1 v q1, en _ _ _ (by omega) (by omega)]
  · by_cases q2 : v < 100
    · rw [nd_e2 v (by omega), st _ _ _ (-100) 2 (by omega) (by omega) (by omega) (by omega), en _ _ _ (by omega) (by omega)]
    · by_cases q3 : v < 1000
      · rw [nd_e3 v (by omega), st _ _ _ (-100) 2 (by omega) (by omega) (by omega) (by omega), st _ _ _ (-1000) 3 (by omega) (by omega) (by omega) (by omega), en _ _ _ (by omega) (by omega)]
      · rw [nd_e4 v (by omega), st _ _ _ (-100) 2 (by omega) (by omega) (by omega) (by omega), st _ _ _ (-1000) 3 (by omega) (by omega) (by omega) (by omega), st _ _ _ (-10000) 4 (by omega) (by omega) (by omega) (by omega), en _ _ _ (by omega) (by omega)]
/-- the digits of a number stand where they should -/
abbrev DG (A' A2 : AI) (tv : Nat) (L v : Int) : Prop := (∀ j, 0 ≤ j → j < nd v → A2 tv (L + nd v - 1 - j) = 48 + dgt v j) ∧ (∀ k, k < L → A2 tv k = A' tv k) ∧ ∀ (b : Nat) (z : Int), b ≠ tv → A2 b z = A' b z
theorem u_chars {B : Nat} (hk : isSB c B tv cap) (hb : BY A tv cap) (L v : Int) (hv : 0 ≤ v ∧ v < 10000) (hL : 0 ≤ L ∧ L + nd v ≤ cap ∧ cap ≤ 7000) : ∃ A2, fJ6_getChars_ba4f3 (ii v) (ii (L + nd v)) tv (CW c A J) = some (Sum.inl (some (Value.int (ii (L)))), CW c A2 J) ∧ BY A2 tv cap ∧ DG A A2 tv L v := by
  obtain ⟨n, hn⟩ : ∃ n, FU = n + 1 + 1 + 1 := ⟨99999997, rfl⟩
  have hU : ∀ (A : AI) (z w : Int) (k : AS → Option AR), ((0 ≤ z ∧ z < cap) ∧ 0 ≤ w ∧ w ≤ 127) → uN 103 .byte (CW c A J) tv (ii z) (ii w) k = k (CW c (up A tv z w) J) := fun A z w k h => k_uB hk.2.2.1 z w (by omega) h.2 k
  by_cases q1 : v < 10
  · rw [nd_e1 v q1] at hL ⊢
    have i1 : L + 1 + -1 = L := by omega
    refine ⟨up A tv L (48 + v % 10), ?_, hb.u1 _ _ _ (by omega), fun j a b => ?_, fun k a => up_n _ _ _ _ _ _ (by omega), fun b z q => up_n _ _ _ _ _ _ (fun e => q e.1)⟩
    · simp (disch := first | assumption | omega) only [fJ6_getChars_ba4f3, fJ6_getChars_ba4f3_12, fJ6_getChars_ba4f3_22, fJ6_getChars_ba4f3_72, fJ6_getChars_ba4f3_104, hn, kT_o, kT_t, hU, i1, Int.neg_neg, ↓reduceIte, tr_lt, fa_lt, tr_le, fa_le, tr_eq, fa_eq, and_true, true_and, and_false, false_and, il0, il1, il2, il3, il4, il5, il6, il7, il8, il9, il10, il11, il12, il15, il16, il20, il24, il31, il32, il44, il45, il48, il50, il57, il58, il59, il63, il91, il93, il97, il99, il100, il109, il113, il119, il120, il122, il200, il255, il480, il500, il501, il512, il999, il4112, il41120, il1000000, il1000003, ii_add, ii_sub, ii_mul, ii_neg, ii_le, ii_lt, ii_eq, ii_div, q_I, q_V, q_R, lt_q, rZ_q, md_M, md_16, md_4, md_8, md_10, if_true, if_false, if_pos, if_neg]
    · rw [nd_e1 v q1] at b ⊢
      rw [show j = 0 by omega, dgt_0, show L + 1 - 1 - 0 = L by omega, up_s]
  · by_cases q2 : v < 100
    · rw [nd_e2 v (by omega)] at hL ⊢
      have i1 : L + 2 + -1 = L + 1 := by omega
      have i2 : L + 1 + -1 = L := by omega
      refine ⟨up (up A tv (L + 1) (48 + v % 10)) tv L (48 + v / 10), ?_, (hb.u1 _ _ _ (by omega)).u1 _ _ _ (by omega), fun j a b => ?_, fun k a => ?_, fun b z q => ?_⟩
      · simp (disch := first | assumption | omega) only [fJ6_getChars_ba4f3, fJ6_getChars_ba4f3_12, fJ6_getChars_ba4f3_22, fJ6_getChars_ba4f3_72, fJ6_getChars_ba4f3_104, hn, kT_o, kT_t, hU, i1, i2, Int.neg_neg, ↓reduceIte, tr_lt, fa_lt, tr_le, fa_le, tr_eq, fa_eq, and_true, true_and, and_false, false_and, il0, il1, il2, il3, il4, il5, il6, il7, il8, il9, il10, il11, il12, il15, il16, il20, il24, il31, il32, il44, il45, il48, il50, il57, il58, il59, il63, il91, il93, il97, il99, il100, il109, il113, il119, il120, il122, il200, il255, il480, il500, il501, il512, il999, il4112, il41120, il1000000, il1000003, ii_add, ii_sub, ii_mul, ii_neg, ii_le, ii_lt, ii_eq, ii_div, q_I, q_V, q_R, lt_q, rZ_q, md_M, md_16, md_4, md_8, md_10, if_true, if_false, if_pos, if_neg]
      · rw [nd_e2 v (by omega)] at b ⊢
        rcases (show j = 0 ∨ j = 1 by omega) with rfl | rfl
        · rw [dgt_0, show L + 2 - 1 - 0 = L + 1 by omega, up_n _ _ _ _ _ _ (by omega), up_s]
        · rw [dgt_1, show L + 2 - 1 - 1 = L by omega, up_s]; omega
      · rw [up_n _ _ _ _ _ _ (by omega), up_n _ _ _ _ _ _ (by omega)]
      · rw [up_n _ _ _ _ _ _ (fun e => q e.1), up_n _ _ _ _ _ _ (fun e => q e.1)]
    · have r1 : -(v / 100) * 100 - -v = v % 100 := by omega
      by_cases q3 : v < 1000
      · rw [nd_e3 v (by omega)] at hL ⊢
        have i1 : L + 3 + -1 = L + 2 := by omega
        have i2 : L + 2 + -1 = L + 1 := by omega
        have i3 : L + 1 + -1 = L := by omega
        refine ⟨up (up (up A tv (L + 2) (48 + v % 100 % 10)) tv (L + 1) (48 + v % 100 / 10)) tv L (48 + v / 100 % 10), ?_, ((hb.u1 _ _ _ (by omega)).u1 _ _ _ (by omega)).u1 _ _ _ (by omega), fun j a b => ?_, fun k a => ?_, fun b z q => ?_⟩
        · simp (disch := first | assumption | omega) only [fJ6_getChars_ba4f3, fJ6_getChars_ba4f3_12, fJ6_getChars_ba4f3_22, fJ6_getChars_ba4f3_72, fJ6_getChars_ba4f3_104, hn, kT_o, kT_t, hU, i1, i2, i3, Int.neg_neg, n_div, r1, ↓reduceIte, tr_lt, fa_lt, tr_le, fa_le, tr_eq, fa_eq, and_true, true_and, and_false, false_and, il0, il1, il2, il3, il4, il5, il6, il7, il8, il9, il10, il11, il12, il15, il16, il20, il24, il31, il32, il44, il45, il48, il50, il57, il58, il59, il63, il91, il93, il97, il99, il100, il109, il113, il119, il120, il122, il200, il255, il480, il500, il501, il512, il999, il4112, il41120, il1000000, il1000003, ii_add, ii_sub, ii_mul, ii_neg, ii_le, ii_lt, ii_eq, ii_div, q_I, q_V, q_R, lt_q, rZ_q, md_M, md_16, md_4, md_8, md_10, if_true, if_false, if_pos, if_neg]
        · rw [nd_e3 v (by omega)] at b ⊢
          rcases (show j = 0 ∨ j = 1 ∨ j = 2 by omega) with rfl | rfl | rfl
          · rw [dgt_0, show L + 3 - 1 - 0 = L + 2 by omega, up_n _ _ _ _ _ _ (by omega), up_n _ _ _ _ _ _ (by omega), up_s]; omega
          · rw [dgt_1, show L + 3 - 1 - 1 = L + 1 by omega, up_n _ _ _ _ _ _ (by omega), up_s]; omega
          · rw [dgt_2, show L + 3 - 1 - 2 = L by omega, up_s]
        · rw [up_n _ _ _ _ _ _ (by omega), up_n _ _ _ _ _ _ (by omega), up_n _ _ _ _ _ _ (by omega)]
        · rw [up_n _ _ _ _ _ _ (fun e => q e.1), up_n _ _ _ _ _ _ (fun e => q e.1), up_n _ _ _ _ _ _ (fun e => q e.1)]
      · rw [nd_e4 v (by omega)] at hL ⊢
        have i0 : L + 4 + -1 = L + 3 := by omega
        have i1 : L + 3 + -1 = L + 2 := by omega
        have i2 : L + 2 + -1 = L + 1 := by omega
        have i3 : L + 1 + -1 = L := by omega
        refine ⟨up (up (up (up A tv (L + 3) (48 + v % 100 % 10)) tv (L + 2) (48 + v % 100 / 10)) tv (L + 1) (48 + v / 100 % 10)) tv L (48 + v / 100 / 10), ?_, (((hb.u1 _ _ _ (by omega)).u1 _ _ _ (by omega)).u1 _ _ _ (by omega)).u1 _ _ _ (by omega), fun j a b => ?_, fun k a => ?_, fun b z q => ?_⟩
        · simp (disch := first | assumption | omega) only [fJ6_getChars_ba4f3, fJ6_getChars_ba4f3_12, fJ6_getChars_ba4f3_22, fJ6_getChars_ba4f3_72, fJ6_getChars_ba4f3_104, hn, kT_o, kT_t, hU, i0, i1, i2, i3, Int.neg_neg, n_div, r1, ↓reduceIte, tr_lt, fa_lt, tr_le, fa_le, tr_eq, fa_eq, and_true, true_and, and_false, false_and, il0, il1, il2, il3, il4, il5, il6, il7, il8, il9, il10, il11, il12, il15, il16, il20, il24, il31, il32, il44, il45, il48, il50, il57, il58, il59, il63, il91, il93, il97, il99, il100, il109, il113, il119, il120, il122, il200, il255, il480, il500, il501, il512, il999, il4112, il41120, il1000000, il1000003, ii_add, ii_sub, ii_mul, ii_neg, ii_le, ii_lt, ii_eq, ii_div, q_I, q_V, q_R, lt_q, rZ_q, md_M, md_16, md_4, md_8, md_10, if_true, if_false, if_pos, if_neg]
        · rw [nd_e4 v (by omega)] at b ⊢
          rcases (show j = 0 ∨ j = 1 ∨ j = 2 ∨ j = 3 by omega) with rfl | rfl | rfl | rfl
          · rw [dgt_0, show L + 4 - 1 - 0 = L + 3 by omega, up_n _ _ _ _ _ _ (by omega), up_n _ _ _ _ _ _ (by omega), up_n _ _ _ _ _ _ (by omega), up_s]; omega
          · rw [dgt_1, show L + 4 - 1 - 1 = L + 2 by omega, up_n _ _ _ _ _ _ (by omega), up_n _ _ _ _ _ _ (by omega), up_s]; omega
          · rw [dgt_2, show L + 4 - 1 - 2 = L + 1 by omega, up_n _ _ _ _ _ _ (by omega), up_s]
          · rw [dgt_3, show L + 4 - 1 - 3 = L by omega, up_s]; omega
        · rw [up_n _ _ _ _ _ _ (by omega), up_n _ _ _ _ _ _ (by omega), up_n _ _ _ _ _ _ (by omega), up_n _ _ _ _ _ _ (by omega)]
        · rw [up_n _ _ _ _ _ _ (fun e => q e.1), up_n _ _ _ _ _ _ (fun e => q e.1), up_n _ _ _ _ _ _ (fun e => q e.1), up_n _ _ _ _ _ _ (fun e => q e.1)]
theorem u_num {B : Nat} (h : TG c A B tv cap p) (v : Int) (hv : 0 ≤ v ∧ v < 10000) (hp : p.1 ≤ 2950) : ∃ (c' : CC) (A' : AI) (J' : JI) (tv' cap' : Nat), fJ4_append_bf812 B (ii v) (CW c A J) = some (.inl (some (.ref B)), CW c' A' J') ∧ TG c' A' B tv' cap' (tN v p) ∧ GLb B c c' cap cap' A A' J J' := by
  have hk := h.1
  have b3 := h.2.1.1
  have b0 := h.2.2.1.1
  have hd := nd_b v
  obtain ⟨c', A', J', tv', cap', e1, ⟨hk', ⟨a3, a1⟩, ⟨l0, l1, l2, l3, l4⟩, ht, hb⟩, hm, hL⟩ := u_ens (J := J) h (p.1 + nd v) (by omega)
  have hne : tv' ≠ B := hk'.2.2.2
  have hil := u_lat (J := J') hk' a1
  have n1 : ¬ ii 1 = (0 : Int32) := by decide
  obtain ⟨A2, g1, g2, g3, g4, g5⟩ := u_chars (J := J') hk' hb p.1 v hv (by omega)
  have hap : fJ5_append_c97b9 B (ii v) (CW c A J) = some (.inl (some (.ref B)), CW c' (up A2 B 3 (p.1 + nd v)) J') := by
    rw [fJ5_append_c97b9, vbI3 hk, b3, t_size v hv, k_C, q_I, lt_q, ii_add, vbV hk, e1, k_Cl hL.1, q_V, vbV hk', hil, k_C, q_I, if_neg n1, vbR0 hk', g1, k_C, q_I, fJ5_append_c97b9_48, vbS3 hk']
  refine ⟨c', up A2 B 3 (p.1 + nd v), J', tv', cap', ?_, ⟨hk', ⟨up_s _ _ _ _, ?_⟩, ⟨by show 0 ≤ p.1 + nd v; omega, by show p.1 + nd v ≤ _; omega, l2, l3, l4⟩, fun k a b => ?_, g2.u2 _ _ _ (fun e => hne e.symm)⟩, ⟨hL.1, hL.2.1, hL.2.2.1, fun b z q w e => ?_, hL.2.2.2.2⟩⟩
  · rw [fJ4_append_bf812, vbV hk, hap, k_Cl hL.1, q_R]
  · rw [up_n _ _ _ _ _ _ (by omega), g5 _ _ (fun e => hne e.symm)]; exact a1
  · have b' : k < p.1 + nd v := b
    rw [up_n _ _ _ _ _ _ (fun e => hne e.1)]
    by_cases q : k < p.1
    · rw [tN_l v p k q, g4 k q]
      exact ht k a q
    · have e := g3 (p.1 + nd v - 1 - k) (by omega) (by omega)
      rw [show p.1 + nd v - 1 - (p.1 + nd v - 1 - k) = k by omega] at e
      rw [e, tN_d v p k (p.1 + nd v - 1 - k) (by omega) (by omega)]
  · have hbt := GLb.ne_tv hL hk' q e
    rw [up_n _ _ _ _ _ _ (fun x => w x.1), g5 b z hbt]; exact hL.2.2.2.1 b z q w e
theorem t_lat (hk : isLock c pl sp tv cap) (a1 : A 375 1 = 0) : fJ5_isLatin1_aae02 375 (CW c A J) = some (Sum.inl (some (Value.int (ii (1)))), CW c A J) := u_lat hk.sb a1
theorem t_app (h : TS c A pl sp tv cap p) (ch : Int) (hc : 0 ≤ ch ∧ ch ≤ 127) (hp : p.1 ≤ 2950) : ∃ (c' : CC) (A' : AI) (J' : JI) (tv' cap' : Nat), fJ4_append_cf468 375 (ii ch) (CW c A J) = some (.inl (some (.ref 375)), CW c' A' J') ∧ TS c' A' pl sp tv' cap' (tC ch p) ∧ TL c c' cap cap' A A' J J' := by
  obtain ⟨c', A', J', tv', cap', e, hT, hL⟩ := u_app (J := J) (show TG c A 375 tv cap p from ⟨h.1.sb, h.2⟩) ch hc hp
  obtain ⟨h1, h2⟩ := h.of hT hL
  exact ⟨c', A', J', tv', cap', e, h1, h2⟩
theorem t_num (h : TS c A pl sp tv cap p) (v : Int) (hv : 0 ≤ v ∧ v < 10000) (hp : p.1 ≤ 2950) : ∃ (c' : CC) (A' : AI) (J' : JI) (tv' cap' : Nat), fJ4_append_bf812 375 (ii v) (CW c A J) = some (.inl (some (.ref 375)), CW c' A' J') ∧ TS c' A' pl sp tv' cap' (tN v p) ∧ TL c c' cap cap' A A' J J' := by
  obtain ⟨c', A', J', tv', cap', e, hT, hL⟩ := u_num (J := J) (show TG c A 375 tv cap p from ⟨h.1.sb, h.2⟩) v hv hp
  obtain ⟨h1, h2⟩ := h.of hT hL
  exact ⟨c', A', J', tv', cap', e, h1, h2⟩
end TX2
/-! the model -/
abbrev TM (M : AI) (p : TP) : Prop := M 0 40 = p.1 ∧ ∀ k, 0 ≤ k → k < p.1 → M 16 k = p.2 k
abbrev FM (M M' : AI) : Prop := (∀ z, z ≠ 40 → M' 0 z = M 0 z) ∧ ∀ (b : Nat) (z : Int), 0 < b → b ≠ 16 → M' b z = M b z
theorem FM.refl (M : AI) : FM M M := ⟨fun _ _ => rfl, fun _ _ _ _ => rfl⟩
theorem FM.trans {M M1 M2 : AI} (h : FM M M1) (k : FM M1 M2) : FM M M2 := ⟨fun z q => (k.1 z q).trans (h.1 z q), fun b z q w => (k.2 b z q w).trans (h.2 b z q w)⟩
def sy (M : AI) (L ch : Int) : AI := up (up M 16 L ch) 0 40 (L + 1)
theorem sy_40 (M : AI) (L ch : Int) : sy M L ch 0 40 = L + 1 := up_s _ _ _ _
theorem sy_F (M : AI) (L ch : Int) : FM M (sy M L ch) := ⟨fun z q => by unfold sy; rw [up_n _ _ _ _ _ _ (fun e => q e.2), up_n _ _ _ _ _ _ (by omega)], fun b z q w => by unfold sy; rw [up_n _ _ _ _ _ _ (by omega), up_n _ _ _ _ _ _ (fun e => w e.1)]⟩
theorem sy_16 (M : AI) (L ch : Int) : sy M L ch 16 L = ch := by unfold sy; rw [up_n _ _ _ _ _ _ (by omega), up_s]
theorem sy_16n (M : AI) (L ch k : Int) (h : k ≠ L) : sy M L ch 16 k = M 16 k := by unfold sy; rw [up_n _ _ _ _ _ _ (by omega), up_n _ _ _ _ _ _ (fun e => h e.2)]
section TX3
variable {K : Nat × Nat} {M M' : AI} {g : Int → Int} {p : TP}
theorem e_says (L ch : Int) (h : M 0 40 = L) (hL : 0 ≤ L ∧ L < 3000) : fX7_says 0 (ii ch) (NW K (mg M g)) = some (Sum.inl none, NW K (mg (sy M L ch) g)) := by
  have h2 : up M 16 L ch 0 40 = L := by rw [up_n _ _ _ _ _ _ (by omega)]; exact h
  simp (disch := first | assumption | omega) only [fX7_says, nR1, nA1, nU1, nR2, nA2, nU2, nR3, nA3, nU3, nR4, nA4, nU4, nR5, nA5, nU5, nR6, nA6, nU6, nR7, nA7, nU7, nR8, nA8, nU8, nR9, nA9, nU9, nR10, nA10, nU10, nR11, nA11, nU11, nR12, nA12, nU12, nR13, nA13, nU13, nR14, nA14, nU14, nR15, nA15, nU15, nR16, nA16, nU16, nI0, nS0, nI1, nS1, nI2, nS2, nI3, nS3, nI4, nS4, nI5, nS5, nI6, nS6, nI7, nS7, nI8, nS8, nI9, nS9, nI15, nS15, nI18, nS18, nI19, nS19, nI20, nS20, nI21, nS21, nI22, nS22, nI23, nS23, nI24, nS24, nI25, nS25, nI26, nS26, nI27, nS27, nI32, nS32, nI36, nS36, nI37, nS37, nI40, nS40, nSZ1, nV, nC, ↓reduceIte, tr_lt, fa_lt, tr_le, fa_le, tr_eq, fa_eq, and_true, true_and, and_false, false_and, il0, il1, il2, il3, il4, il5, il6, il7, il8, il9, il10, il11, il12, il15, il16, il20, il24, il31, il32, il44, il45, il48, il50, il57, il58, il59, il63, il91, il93, il97, il99, il100, il109, il113, il119, il120, il122, il200, il255, il480, il500, il501, il512, il999, il4112, il41120, il1000000, il1000003, ii_add, ii_sub, ii_mul, ii_neg, ii_le, ii_lt, ii_eq, ii_div, q_I, q_V, q_R, lt_q, rZ_q, md_M, md_16, md_4, md_8, md_10, if_true, if_false, if_pos, if_neg, mg_3, mg_0, mg_1, mg_2, mg_k, mg_up3, mg_upk, h, h2]
  rfl
theorem m_says (h : TM M p) (ch : Int) (hp : 0 ≤ p.1 ∧ p.1 < 3000) : ∃ M', fX7_says 0 (ii ch) (NW K (mg M g)) = some (Sum.inl none, NW K (mg M' g)) ∧ TM M' (tC ch p) ∧ FM M M' := by
  refine ⟨sy M p.1 ch, e_says p.1 ch h.1 hp, ⟨sy_40 _ _ _, fun k a b => ?_⟩, sy_F _ _ _⟩
  have b' : k < p.1 + 1 := b
  show _ = gu p.2 p.1 ch k
  by_cases q : k = p.1
  · rw [q, sy_16, gu_s]
  · rw [sy_16n _ _ _ _ q, gu_n _ _ _ _ q]; exact h.2 k a (by omega)
theorem e_18s (n : Nat) (L v u u' : Int) (hu : 0 < u ∧ u ≤ 1000) (hu' : u / 10 = u') (hv : 0 ≤ v ∧ v < 10000) (hq : 0 ≤ v / u ∧ v / u < 10000) (h : M 0 40 = L) (hL : 0 ≤ L ∧ L < 3000) : fX7_saysNumber_18 (n + 1) 0 (ii v) (ii u) (NW K (mg M g)) = fX7_saysNumber_18 n 0 (ii v) (ii u') (NW K (mg (sy M L (48 + v / u % 10)) g)) := by
  have hs := e_says (K := K) (g := g) L (48 + v / u % 10) h hL
  simp (disch := first | assumption | omega) only [fX7_saysNumber_18, nR1, nA1, nU1, nR2, nA2, nU2, nR3, nA3, nU3, nR4, nA4, nU4, nR5, nA5, nU5, nR6, nA6, nU6, nR7, nA7, nU7, nR8, nA8, nU8, nR9, nA9, nU9, nR10, nA10, nU10, nR11, nA11, nU11, nR12, nA12, nU12, nR13, nA13, nU13, nR14, nA14, nU14, nR15, nA15, nU15, nR16, nA16, nU16, nI0, nS0, nI1, nS1, nI2, nS2, nI3, nS3, nI4, nS4, nI5, nS5, nI6, nS6, nI7, nS7, nI8, nS8, nI9, nS9, nI15, nS15, nI18, nS18, nI19, nS19, nI20, nS20, nI21, nS21, nI22, nS22, nI23, nS23, nI24, nS24, nI25, nS25, nI26, nS26, nI27, nS27, nI32, nS32, nI36, nS36, nI37, nS37, nI40, nS40, nSZ1, nV, nC, ↓reduceIte, tr_lt, fa_lt, tr_le, fa_le, tr_eq, fa_eq, and_true, true_and, and_false, false_and, il0, il1, il2, il3, il4, il5, il6, il7, il8, il9, il10, il11, il12, il15, il16, il20, il24, il31, il32, il44, il45, il48, il50, il57, il58, il59, il63, il91, il93, il97, il99, il100, il109, il113, il119, il120, il122, il200, il255, il480, il500, il501, il512, il999, il4112, il41120, il1000000, il1000003, ii_add, ii_sub, ii_mul, ii_neg, ii_le, ii_lt, ii_eq, ii_div, q_I, q_V, q_R, lt_q, rZ_q, md_M, md_16, md_4, md_8, md_10, if_true, if_false, if_pos, if_neg, hs, hu']
theorem e_18e (n : Nat) (v : Int) (W : AS) : fX7_saysNumber_18 (n + 1) 0 (ii v) (ii 0) W = some (Sum.inl none, W) := by
  rw [fX7_saysNumber_18, if_pos (by decide)]
theorem e_2s (n : Nat) (v u u' : Int) (hu : 0 < u ∧ u ≤ 1000) (hu' : 10 * u = u') (hv : 0 ≤ v ∧ v < 10000) (hq : 10 ≤ v / u ∧ v / u < 10000) (W : AS) : fX7_saysNumber_2 (n + 1) 0 (ii v) (ii u) W = fX7_saysNumber_2 n 0 (ii v) (ii u') W := by
  simp (disch := first | assumption | omega) only [fX7_saysNumber_2, ↓reduceIte, tr_lt, fa_lt, tr_le, fa_le, tr_eq, fa_eq, and_true, true_and, and_false, false_and, il0, il1, il2, il3, il4, il5, il6, il7, il8, il9, il10, il11, il12, il15, il16, il20, il24, il31, il32, il44, il45, il48, il50, il57, il58, il59, il63, il91, il93, il97, il99, il100, il109, il113, il119, il120, il122, il200, il255, il480, il500, il501, il512, il999, il4112, il41120, il1000000, il1000003, ii_add, ii_sub, ii_mul, ii_neg, ii_le, ii_lt, ii_eq, ii_div, q_I, q_V, q_R, lt_q, rZ_q, md_M, md_16, md_4, md_8, md_10, if_true, if_false, if_pos, if_neg, hu']
theorem e_2e (n : Nat) (v u : Int) (hu : 0 < u ∧ u ≤ 1000) (hv : 0 ≤ v ∧ v < 10000) (hq : 0 ≤ v / u ∧ v / u < 10) (W : AS) : fX7_saysNumber_2 (n + 1) 0 (ii v) (ii u) W = fX7_saysNumber_18 FU 0 (ii v) (ii u) W := by
  simp (disch := first | assumption | omega) only [fX7_saysNumber_2, ↓reduceIte, tr_lt, fa_lt, tr_le, fa_le, tr_eq, fa_eq, and_true, true_and, and_false, false_and, il0, il1, il2, il3, il4, il5, il6, il7, il8, il9, il10, il11, il12, il15, il16, il20, il24, il31, il32, il44, il45, il48, il50, il57, il58, il59, il63, il91, il93, il97, il99, il100, il109, il113, il119, il120, il122, il200, il255, il480, il500, il501, il512, il999, il4112, il41120, il1000000, il1000003, ii_add, ii_sub, ii_mul, ii_neg, ii_le, ii_lt, ii_eq, ii_div, q_I, q_V, q_R, lt_q, rZ_q, md_M, md_16, md_4, md_8, md_10, if_true, if_false, if_pos, if_neg]
theorem m_num (h : TM M p) (v : Int) (hv : 0 ≤ v ∧ v < 10000) (hp : 0 ≤ p.1 ∧ p.1 < 2990) : ∃ M', fX7_saysNumber 0 (ii v) (NW K (mg M g)) = some (Sum.inl none, NW K (mg M' g)) ∧ TM M' (tN v p) ∧ FM M M' := by
  obtain ⟨n, hn⟩ : ∃ n, FU = n + 1 + 1 + 1 + 1 + 1 := ⟨99999995, rfl⟩
  have key : ∀ M' : AI, fX7_saysNumber_2 FU 0 (ii v) (ii 1) (NW K (mg M g)) = some (Sum.inl none, NW K (mg M' g)) → (M' 0 40 = p.1 + nd v ∧ FM M M') → (∀ j, 0 ≤ j → j < nd v → M' 16 (p.1 + nd v - 1 - j) = 48 + dgt v j) → (∀ k, k < p.1 → M' 16 k = M 16 k) → ∃ M', fX7_saysNumber 0 (ii v) (NW K (mg M g)) = some (Sum.inl none, NW K (mg M' g)) ∧ TM M' (tN v p) ∧ FM M M' := by
    intro M' a1 a2 a3 a4
    refine ⟨M', a1, ⟨a2.1, fun k a b => ?_⟩, a2.2⟩
    have b' : k < p.1 + nd v := b
    by_cases q : k < p.1
    · rw [tN_l v p k q, a4 k q]; exact h.2 k a q
    · have e := a3 (p.1 + nd v - 1 - k) (by omega) (by omega)
      rw [show p.1 + nd v - 1 - (p.1 + nd v - 1 - k) = k by omega] at e
      rw [e, tN_d v p k (p.1 + nd v - 1 - k) (by omega) (by omega)]
  rw [hn] at key
  by_cases q1 : v < 10
  · refine key (sy M p.1 (48 + v / 1 % 10)) ?_ ⟨?_, sy_F _ _ _⟩ (fun j a b => ?_) (fun k a => ?_)
    · rw [e_2e _ v 1 (by omega) hv (by omega), hn, e_18s _ p.1 v 1 0 (by omega) (by omega) hv (by omega) h.1 (by omega), e_18e]
    · rw [nd_e1 v q1]; exact sy_40 _ _ _
    · rw [nd_e1 v q1] at b ⊢
      rw [show j = 0 by omega, dgt_0, show p.1 + 1 - 1 - 0 = p.1 by omega, sy_16]; omega
    · rw [sy_16n _ _ _ _ (by omega)]
  · by_cases q2 : v < 100
    · refine key (sy (sy M p.1 (48 + v / 10 % 10)) (p.1 + 1) (48 + v / 1 % 10)) ?_ ⟨?_, (sy_F _ _ _).trans (sy_F _ _ _)⟩ (fun j a b => ?_) (fun k a => ?_)
      · rw [e_2s _ v 1 10 (by omega) (by omega) hv (by omega), e_2e _ v 10 (by omega) hv (by omega), hn, e_18s _ p.1 v 10 1 (by omega) (by omega) hv (by omega) h.1 (by omega), e_18s _ (p.1 + 1) v 1 0 (by omega) (by omega) hv (by omega) (sy_40 _ _ _) (by omega), e_18e]
      · rw [nd_e2 v (by omega), sy_40]; omega
      · rw [nd_e2 v (by omega)] at b ⊢
        rcases (show j = 0 ∨ j = 1 by omega) with rfl | rfl
        · rw [dgt_0, show p.1 + 2 - 1 - 0 = p.1 + 1 by omega, sy_16]; omega
        · rw [dgt_1, show p.1 + 2 - 1 - 1 = p.1 by omega, sy_16n _ _ _ _ (by omega), sy_16]
      · rw [sy_16n _ _ _ _ (by omega), sy_16n _ _ _ _ (by omega)]
    · by_cases q3 : v < 1000
      · refine key (sy (sy (sy M p.1 (48 + v / 100 % 10)) (p.1 + 1) (48 + v / 10 % 10)) (p.1 + 1 + 1) (48 + v / 1 % 10)) ?_ ⟨?_, ((sy_F _ _ _).trans (sy_F _ _ _)).trans (sy_F _ _ _)⟩ (fun j a b => ?_) (fun k a => ?_)
        · rw [e_2s _ v 1 10 (by omega) (by omega) hv (by omega), e_2s _ v 10 100 (by omega) (by omega) hv (by omega), e_2e _ v 100 (by omega) hv (by omega), hn, e_18s _ p.1 v 100 10 (by omega) (by omega) hv (by omega) h.1 (by omega), e_18s _ (p.1 + 1) v 10 1 (by omega) (by omega) hv (by omega) (sy_40 _ _ _) (by omega), e_18s _ (p.1 + 1 + 1) v 1 0 (by omega) (by omega) hv (by omega) (sy_40 _ _ _) (by omega), e_18e]
        · rw [nd_e3 v (by omega), sy_40]; omega
        · rw [nd_e3 v (by omega)] at b ⊢
          rcases (show j = 0 ∨ j = 1 ∨ j = 2 by omega) with rfl | rfl | rfl
          · rw [dgt_0, show p.1 + 3 - 1 - 0 = p.1 + 1 + 1 by omega, sy_16]; omega
          · rw [dgt_1, show p.1 + 3 - 1 - 1 = p.1 + 1 by omega, sy_16n _ _ _ _ (by omega), sy_16]
          · rw [dgt_2, show p.1 + 3 - 1 - 2 = p.1 by omega, sy_16n _ _ _ _ (by omega), sy_16n _ _ _ _ (by omega), sy_16]
        · rw [sy_16n _ _ _ _ (by omega), sy_16n _ _ _ _ (by omega), sy_16n _ _ _ _ (by omega)]
      · refine key (sy (sy (sy (sy M p.1 (48 + v / 1000 % 10)) (p.1 + 1) (48 + v / 100 % 10)) (p.1 + 1 + 1) (48 + v / 10 % 10)) (p.1 + 1 + 1 + 1) (48 + v / 1 % 10)) ?_ ⟨?_, (((sy_F _ _ _).trans (sy_F _ _ _)).trans (sy_F _ _ _)).trans (sy_F _ _ _)⟩ (fun j a b => ?_) (fun k a => ?_)
        · rw [e_2s _ v 1 10 (by omega) (by omega) hv (by omega), e_2s _ v 10 100 (by omega) (by omega) hv (by omega), e_2s _ v 100 1000 (by omega) (by omega) hv (by omega), e_2e _ v 1000 (by omega) hv (by omega), hn, e_18s _ p.1 v 1000 100 (by omega) (by omega) hv (by omega) h.1 (by omega), e_18s _ (p.1 + 1) v 100 10 (by omega) (by omega) hv (by omega) (sy_40 _ _ _) (by omega), e_18s _ (p.1 + 1 + 1) v 10 1 (by omega) (by omega) hv (by omega) (sy_40 _ _ _) (by omega), e_18s _ (p.1 + 1 + 1 + 1) v 1 0 (by omega) (by omega) hv (by omega) (sy_40 _ _ _) (by omega), e_18e]
        · rw [nd_e4 v (by omega), sy_40]; omega
        · rw [nd_e4 v (by omega)] at b ⊢
          rcases (show j = 0 ∨ j = 1 ∨ j = 2 ∨ j = 3 by omega) with rfl | rfl | rfl | rfl
          · rw [dgt_0, show p.1 + 4 - 1 - 0 = p.1 + 1 + 1 + 1 by omega, sy_16]; omega
          · rw [dgt_1, show p.1 + 4 - 1 - 1 = p.1 + 1 + 1 by omega, sy_16n _ _ _ _ (by omega), sy_16]
          · rw [dgt_2, show p.1 + 4 - 1 - 2 = p.1 + 1 by omega, sy_16n _ _ _ _ (by omega), sy_16n _ _ _ _ (by omega), sy_16]
          · rw [dgt_3, show p.1 + 4 - 1 - 3 = p.1 by omega, sy_16n _ _ _ _ (by omega), sy_16n _ _ _ _ (by omega), sy_16n _ _ _ _ (by omega), sy_16]
        · rw [sy_16n _ _ _ _ (by omega), sy_16n _ _ _ _ (by omega), sy_16n _ _ _ _ (by omega), sy_16n _ _ _ _ (by omega)]
end TX3
