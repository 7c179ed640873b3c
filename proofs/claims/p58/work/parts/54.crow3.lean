/-! THE CLASS'S ROWS: pieces out, copies -/
theorem cpA_s (A : AI) (a0 a : Nat) (n y : Int) (h : 0 ≤ y ∧ y < n) : cpA A a0 a n a y = A a0 y := if_pos ⟨rfl, h⟩
theorem cpA_n (A : AI) (a0 a b : Nat) (n y : Int) (h : ¬ (b = a ∧ 0 ≤ y ∧ y < n)) : cpA A a0 a n b y = A b y := if_neg h
theorem cpJJ_s (J : JI) (a0 a n y : Nat) (h : y < n) : cpJJ J a0 a n a y = J a0 y := if_pos ⟨rfl, h⟩
theorem cpJJ_n (J : JI) (a0 a b n y : Nat) (h : ¬ (b = a ∧ y < n)) : cpJJ J a0 a n b y = J b y := if_neg h
theorem frm_cp {X : Nat → Prop} {A A1 : AI} {J J1 : JI} (h : frm X A A1 J J1) (a0 b : Nat) (n : Int) (hb : X b) : frm X A (cpA A1 a0 b n) J J1 := ⟨fun a y q => by rw [cpA_n _ _ _ _ _ _ (fun e => q (by rw [e.1]; exact hb))]; exact h.1 a y q, h.2⟩
theorem frm_cpJ {X : Nat → Prop} {A A1 : AI} {J J1 : JI} (h : frm X A A1 J J1) (a0 b n : Nat) (hb : X b) : frm X A A1 J (cpJJ J1 a0 b n) := ⟨h.1, fun a y q => by rw [cpJJ_n _ _ _ _ _ _ (fun e => q (by rw [e.1]; exact hb))]; exact h.2 a y q⟩
section CROW3
variable {c : CC} {A : AI} {J : JI} {R R2 Q : Nat} {len g : Int → Int} {r : Int}
theorem rwCp1 (h2 : isRow c R2) (h : isRow c R) (k : AS → Option AR) : cpI 100 .int (CW c A J) (R2 + 1) (ii 0) (R + 1) (ii 0) (ii 6) k = k (CW c (cpA A (R2 + 1) (R + 1) 6) J) := k_cp h2.1.2.1 h.1.2.1 6 (by omega) k
theorem rwCp3 (h2 : isRow c R2) (h : isRow c R) (k : AS → Option AR) : cpI 100 .int (CW c A J) (R2 + 3) (ii 0) (R + 3) (ii 0) (ii 10) k = k (CW c (cpA A (R2 + 3) (R + 3) 10) J) := k_cp h2.1.2.2.2 h.1.2.2.2 10 (by omega) k
theorem rwCpJ (h2 : isRow c R2) (h : isRow c R) (k : AS → Option AR) : cpJ (CW c A J) (R2 + 2) (ii 0) (R + 2) (ii 0) (ii 32) k = k (CW c A (cpJJ J (R2 + 2) (R + 2) 32)) := k_cpJ h2.1.2.2.1 h.1.2.2.1 32 (by omega) k
theorem c_copyRow (hR : isRow c R) (hR2 : isRow c R2) (hr : RR A J R2 len g r) (hg : RG g r) (hd : R + 4 ≤ R2 ∨ R2 + 4 ≤ R) : ∃ A' J', fX3_copyFrom R R2 (CW c A J) = some (Sum.inl none, CW c A' J') ∧ RR A' J' R len g r ∧ frm (inR R) A A' J J' := by
  obtain ⟨⟨e1, e2, e4, e5, e7, e8, e9⟩, hB, hp, hc⟩ := hr
  have h1 := hg.1
  have h2 := hg.2.1
  have i0 : inR R R := by unfold inR; omega
  have i1 : inR R (R + 1) := by unfold inR; omega
  have i2 : inR R (R + 2) := by unfold inR; omega
  have i3 : inR R (R + 3) := by unfold inR; omega
  refine ⟨up (up (up (cpA (up (up (up (up (cpA A (R2 + 1) (R + 1) 6) R 1 (A R2 1)) R 2 (A R2 2)) R 4 (A R2 4)) R 5 (A R2 5)) (R2 + 3) (R + 3) 10) R 7 (A R2 7)) R 8 (A R2 8)) R 9 (A R2 9), cpJJ J (R2 + 2) (R + 2) 32, ?_, ?_, frm_cpJ (frm_up (frm_up (frm_up (frm_cp (frm_up (frm_up (frm_up (frm_up (frm_cp (frm.refl _ _ _) _ _ _ i1) _ _ _ i0) _ _ _ i0) _ _ _ i0) _ _ _ i0) _ _ _ i3) _ _ _ i0) _ _ _ i0) _ _ _ i0) _ _ _ i2⟩
  · simp (disch := first | assumption | omega) only [fX3_copyFrom, rwI1, rwS1, rwI2, rwS2, rwI4, rwS4, rwI5, rwS5, rwI7, rwS7, rwI8, rwS8, rwI9, rwS9, rwR0, rwR3, rwR6, rwA1, rwU1, rwA3, rwU3, rwV, rwJ, rwUJ, plI0, plS0, plI1, plS1, plI2, plS2, plI3, plS3, plI4, plS4, plI5, plS5, plI6, plS6, plI7, plS7, plR8, plR9, plR10, plA1, plU1, plA2, plU2, plA3, plU3, plV, stI2, stS2, stI3, stS3, stI4, stS4, stI5, stS5, stI6, stS6, stI7, stS7, stR0, stR1, stA2, stU2, stV, stRow, svI5, svS5, svI6, svS6, svI7, svS7, svR0, svR1, svR2, svR3, svR4, svA13, svU13, svA14, svU14, svA15, svU15, svA16, svU16, svV, svRow, svF, svUF, hiI1, hiS1, hiI2, hiS2, hiR0, hiV, hiRow, rdI2, rdS2, rdI3, rdS3, rdI4, rdS4, rdI5, rdS5, rdI6, rdS6, rdI7, rdS7, rdI8, rdS8, rdR0, rdR1, rdA1, rdU1, rdA2, rdU2, rdV, k_C, il0, il1, il2, il3, il4, il5, il6, il7, il8, il9, il10, il11, il12, il15, il16, il20, il24, il31, il32, il44, il45, il48, il50, il57, il58, il59, il63, il91, il93, il97, il99, il100, il109, il113, il119, il120, il122, il200, il255, il480, il500, il501, il512, il999, il4112, il41120, il1000000, il1000003, ii_add, ii_sub, ii_mul, ii_neg, ii_le, ii_lt, ii_eq, ii_div, q_I, q_V, q_R, lt_q, rZ_q, md_M, md_16, md_4, md_8, md_10, if_true, if_false, if_pos, if_neg, cpA_s, cpA_n, cpJJ_s, cpJJ_n, rwCp1, rwCp3, rwCpJ, up_n]
  · refine ⟨?_, fun k a b => ?_, fun k a b => ?_, fun k a b => ?_⟩
    · simp (disch := first | assumption | omega) only [up_s, up_n, cpA_n]
      exact ⟨e1, e2, e4, e5, e7, e8, e9⟩
    · rw [← hB k a b]
      simp (disch := first | assumption | omega) only [up_s, up_n, cpA_n, cpA_s]
    · rw [← hp k a b]
      unfold nib
      rw [cpJJ_s _ _ _ _ _ (by omega)]
    · rw [← hc k a b]
      simp (disch := first | assumption | omega) only [up_s, up_n, cpA_n, cpA_s]
theorem c_dropPieces (hR : isRow c R) : ∃ A', fX3_dropPieces R (CW c A J) = some (Sum.inl none, CW c A' J) ∧ (A' R 4 = 0 ∧ A' R 5 = 0 ∧ ∀ k, 0 ≤ k → k < 10 → A' (R + 3) k = 0) ∧ (∀ z, z ≠ 4 → z ≠ 5 → A' R z = A R z) ∧ ∀ (b : Nat) (z : Int), b ≠ R → b ≠ R + 3 → A' b z = A b z := by
  simp (disch := first | assumption | omega) only [fX3_dropPieces, rwI1, rwS1, rwI2, rwS2, rwI4, rwS4, rwI5, rwS5, rwI7, rwS7, rwI8, rwS8, rwI9, rwS9, rwR0, rwR3, rwR6, rwA1, rwU1, rwA3, rwU3, rwV, rwJ, rwUJ, plI0, plS0, plI1, plS1, plI2, plS2, plI3, plS3, plI4, plS4, plI5, plS5, plI6, plS6, plI7, plS7, plR8, plR9, plR10, plA1, plU1, plA2, plU2, plA3, plU3, plV, stI2, stS2, stI3, stS3, stI4, stS4, stI5, stS5, stI6, stS6, stI7, stS7, stR0, stR1, stA2, stU2, stV, stRow, svI5, svS5, svI6, svS6, svI7, svS7, svR0, svR1, svR2, svR3, svR4, svA13, svU13, svA14, svU14, svA15, svU15, svA16, svU16, svV, svRow, svF, svUF, hiI1, hiS1, hiI2, hiS2, hiR0, hiV, hiRow, rdI2, rdS2, rdI3, rdS3, rdI4, rdS4, rdI5, rdS5, rdI6, rdS6, rdI7, rdS7, rdI8, rdS8, rdR0, rdR1, rdA1, rdU1, rdA2, rdU2, rdV, k_C, il0, il1, il2, il3, il4, il5, il6, il7, il8, il9, il10, il11, il12, il15, il16, il20, il24, il31, il32, il44, il45, il48, il50, il57, il58, il59, il63, il91, il93, il97, il99, il100, il109, il113, il119, il120, il122, il200, il255, il480, il500, il501, il512, il999, il4112, il41120, il1000000, il1000003, ii_add, ii_sub, ii_mul, ii_neg, ii_le, ii_lt, ii_eq, ii_div, q_I, q_V, q_R, lt_q, rZ_q, md_M, md_16, md_4, md_8, md_10, if_true, if_false, if_pos, if_neg]
  refine lp (fun n i (s : AI) => fX3_dropPieces_12 n R (ii i) (CW c s J)) (fun x => ∃ A', x = some (Sum.inl none, CW c A' J) ∧ (A' R 4 = 0 ∧ A' R 5 = 0 ∧ ∀ k, 0 ≤ k → k < 10 → A' (R + 3) k = 0) ∧ (∀ z, z ≠ 4 → z ≠ 5 → A' R z = A R z) ∧ ∀ (b : Nat) (z : Int), b ≠ R → b ≠ R + 3 → A' b z = A b z)
    (fun i A' => 0 ≤ i ∧ (A' R 4 = 0 ∧ A' R 5 = 0 ∧ ∀ k, 0 ≤ k → k < i → A' (R + 3) k = 0) ∧ (∀ z, z ≠ 4 → z ≠ 5 → A' R z = A R z) ∧ ∀ (b : Nat) (z : Int), b ≠ R → b ≠ R + 3 → A' b z = A b z) 10 ?_ ?_ FU 0 _ (by omega) ⟨by omega, ⟨?_, ?_, fun k a b => by omega⟩, ?_, ?_⟩ (by have := FU_e; omega)
  · rintro n i s hi ⟨hI, ⟨k1, k2, k3⟩, k4, k5⟩
    refine Or.inr ⟨up s (R + 3) i 0, ⟨by omega, ⟨by rw [up_n _ _ _ _ _ _ (by omega)]; exact k1, by rw [up_n _ _ _ _ _ _ (by omega)]; exact k2, fun k a b => ?_⟩, fun z a b => by rw [up_n _ _ _ _ _ _ (by omega)]; exact k4 z a b, fun b z p q => by rw [up_n _ _ _ _ _ _ (by omega)]; exact k5 b z p q⟩, ?_⟩
    · by_cases q : k = i
      · rw [q, up_s]
      · rw [up_n _ _ _ _ _ _ (by omega)]; exact k3 k a (by omega)
    · simp (disch := first | assumption | omega) only [fX3_dropPieces_12, rwI1, rwS1, rwI2, rwS2, rwI4, rwS4, rwI5, rwS5, rwI7, rwS7, rwI8, rwS8, rwI9, rwS9, rwR0, rwR3, rwR6, rwA1, rwU1, rwA3, rwU3, rwV, rwJ, rwUJ, plI0, plS0, plI1, plS1, plI2, plS2, plI3, plS3, plI4, plS4, plI5, plS5, plI6, plS6, plI7, plS7, plR8, plR9, plR10, plA1, plU1, plA2, plU2, plA3, plU3, plV, stI2, stS2, stI3, stS3, stI4, stS4, stI5, stS5, stI6, stS6, stI7, stS7, stR0, stR1, stA2, stU2, stV, stRow, svI5, svS5, svI6, svS6, svI7, svS7, svR0, svR1, svR2, svR3, svR4, svA13, svU13, svA14, svU14, svA15, svU15, svA16, svU16, svV, svRow, svF, svUF, hiI1, hiS1, hiI2, hiS2, hiR0, hiV, hiRow, rdI2, rdS2, rdI3, rdS3, rdI4, rdS4, rdI5, rdS5, rdI6, rdS6, rdI7, rdS7, rdI8, rdS8, rdR0, rdR1, rdA1, rdU1, rdA2, rdU2, rdV, k_C, il0, il1, il2, il3, il4, il5, il6, il7, il8, il9, il10, il11, il12, il15, il16, il20, il24, il31, il32, il44, il45, il48, il50, il57, il58, il59, il63, il91, il93, il97, il99, il100, il109, il113, il119, il120, il122, il200, il255, il480, il500, il501, il512, il999, il4112, il41120, il1000000, il1000003, ii_add, ii_sub, ii_mul, ii_neg, ii_le, ii_lt, ii_eq, ii_div, q_I, q_V, q_R, lt_q, rZ_q, md_M, md_16, md_4, md_8, md_10, if_true, if_false, if_pos, if_neg]
  · rintro n s ⟨hI, k3, k4, k5⟩
    refine ⟨s, ?_, k3, k4, k5⟩
    simp (disch := first | assumption | omega) only [fX3_dropPieces_12, rwI1, rwS1, rwI2, rwS2, rwI4, rwS4, rwI5, rwS5, rwI7, rwS7, rwI8, rwS8, rwI9, rwS9, rwR0, rwR3, rwR6, rwA1, rwU1, rwA3, rwU3, rwV, rwJ, rwUJ, plI0, plS0, plI1, plS1, plI2, plS2, plI3, plS3, plI4, plS4, plI5, plS5, plI6, plS6, plI7, plS7, plR8, plR9, plR10, plA1, plU1, plA2, plU2, plA3, plU3, plV, stI2, stS2, stI3, stS3, stI4, stS4, stI5, stS5, stI6, stS6, stI7, stS7, stR0, stR1, stA2, stU2, stV, stRow, svI5, svS5, svI6, svS6, svI7, svS7, svR0, svR1, svR2, svR3, svR4, svA13, svU13, svA14, svU14, svA15, svU15, svA16, svU16, svV, svRow, svF, svUF, hiI1, hiS1, hiI2, hiS2, hiR0, hiV, hiRow, rdI2, rdS2, rdI3, rdS3, rdI4, rdS4, rdI5, rdS5, rdI6, rdS6, rdI7, rdS7, rdI8, rdS8, rdR0, rdR1, rdA1, rdU1, rdA2, rdU2, rdV, k_C, il0, il1, il2, il3, il4, il5, il6, il7, il8, il9, il10, il11, il12, il15, il16, il20, il24, il31, il32, il44, il45, il48, il50, il57, il58, il59, il63, il91, il93, il97, il99, il100, il109, il113, il119, il120, il122, il200, il255, il480, il500, il501, il512, il999, il4112, il41120, il1000000, il1000003, ii_add, ii_sub, ii_mul, ii_neg, ii_le, ii_lt, ii_eq, ii_div, q_I, q_V, q_R, lt_q, rZ_q, md_M, md_16, md_4, md_8, md_10, if_true, if_false, if_pos, if_neg]
  · simp (disch := first | assumption | omega) only [up_s, up_n]
  · simp (disch := first | assumption | omega) only [up_s, up_n]
  · intro z a b
    simp (disch := first | assumption | omega) only [up_s, up_n]
  · intro b z p q
    simp (disch := first | assumption | omega) only [up_s, up_n]
theorem c_clearRow (hR : isRow c R) (r : Int) (h0 : cel g r 0 = 0 ∧ cel g r 1 = 0 ∧ cel g r 2 = -1 ∧ cel g r 3 = 0 ∧ cel g r 4 = 0) : ∃ A', fX3_clear R (CW c A J) = some (Sum.inl none, CW c A' J) ∧ RR A' J R len g r ∧ frm (inR R) A A' J J := by
  have i0 : inR R R := by unfold inR; omega
  have i3 : inR R (R + 3) := by unfold inR; omega
  obtain ⟨A1, e1, ⟨k1, k2, k3⟩, k4, k5⟩ := c_dropPieces (A := up (up A R 1 0) R 2 0) (J := J) hR
  have f1 : frm (inR R) A A1 J J := ⟨fun b z q => by rw [k5 b z (fun e => q (e ▸ i0)) (fun e => q (e ▸ i3)), up_n _ _ _ _ _ _ (fun e => q (by rw [e.1]; exact i0)), up_n _ _ _ _ _ _ (fun e => q (by rw [e.1]; exact i0))], fun _ _ _ => rfl⟩
  refine ⟨up (up (up A1 R 7 (-1)) R 8 0) R 9 0, ?_, ?_, frm_up (frm_up (frm_up f1 _ _ _ i0) _ _ _ i0) _ _ _ i0⟩
  · simp (disch := first | assumption | omega) only [fX3_clear, fX3_dropBlocks, rwI1, rwS1, rwI2, rwS2, rwI4, rwS4, rwI5, rwS5, rwI7, rwS7, rwI8, rwS8, rwI9, rwS9, rwR0, rwR3, rwR6, rwA1, rwU1, rwA3, rwU3, rwV, rwJ, rwUJ, plI0, plS0, plI1, plS1, plI2, plS2, plI3, plS3, plI4, plS4, plI5, plS5, plI6, plS6, plI7, plS7, plR8, plR9, plR10, plA1, plU1, plA2, plU2, plA3, plU3, plV, stI2, stS2, stI3, stS3, stI4, stS4, stI5, stS5, stI6, stS6, stI7, stS7, stR0, stR1, stA2, stU2, stV, stRow, svI5, svS5, svI6, svS6, svI7, svS7, svR0, svR1, svR2, svR3, svR4, svA13, svU13, svA14, svU14, svA15, svU15, svA16, svU16, svV, svRow, svF, svUF, hiI1, hiS1, hiI2, hiS2, hiR0, hiV, hiRow, rdI2, rdS2, rdI3, rdS3, rdI4, rdS4, rdI5, rdS5, rdI6, rdS6, rdI7, rdS7, rdI8, rdS8, rdR0, rdR1, rdA1, rdU1, rdA2, rdU2, rdV, k_C, il0, il1, il2, il3, il4, il5, il6, il7, il8, il9, il10, il11, il12, il15, il16, il20, il24, il31, il32, il44, il45, il48, il50, il57, il58, il59, il63, il91, il93, il97, il99, il100, il109, il113, il119, il120, il122, il200, il255, il480, il500, il501, il512, il999, il4112, il41120, il1000000, il1000003, ii_add, ii_sub, ii_mul, ii_neg, ii_le, ii_lt, ii_eq, ii_div, q_I, q_V, q_R, lt_q, rZ_q, md_M, md_16, md_4, md_8, md_10, if_true, if_false, if_pos, if_neg, e1]
  · obtain ⟨z0, z1, z2, z3, z4⟩ := h0
    unfold RR suB suP cnt
    rw [z0, z1, z2, z3, z4, sm_0, sm_0]
    refine ⟨?_, fun k a b => by omega, fun k a b => by omega, fun k a b => ?_⟩
    · simp (disch := first | assumption | omega) only [up_s, up_n, k4, k1, k2]
      exact ⟨trivial, trivial, trivial, trivial, trivial, trivial, trivial⟩
    · rw [sm_0]
      simp (disch := first | assumption | omega) only [up_n]
      exact k3 k a b
theorem RR.drop {A' : AI} (hr : RR A J R len g r) (hg : RG g r) (g' : Int → Int) (e : ∀ w, 0 ≤ w → w < 512 → w ≠ 1 → w ≠ 2 → w ≠ 3 → w ≠ 4 → cel g' r w = cel g r w) (e1 : cel g' r 1 = 0) (hA : ∀ z, z = 1 ∨ z = 2 → A' R z = A R z) (hA1 : ∀ z, A' (R + 1) z = A (R + 1) z) (k1 : A' R 4 = 0) (k2 : A' R 5 = 0) (k3 : ∀ k, 0 ≤ k → k < 10 → A' (R + 3) k = 0) (k7 : A' R 7 = cel g' r 2) (k8 : A' R 8 = cel g' r 3) (k9 : A' R 9 = cel g' r 4) : RR A' J R len g' r := by
  obtain ⟨⟨e1', e2, e4, e5, e7, e8, e9⟩, hB, hp, hc⟩ := hr
  have h1 := hg.1
  have n0 := e 0 (by omega) (by omega) (by omega) (by omega) (by omega) (by omega)
  unfold RR
  rw [suB_cong n0 (fun k a b => e _ (by omega) (by omega) (by omega) (by omega) (by omega) (by omega)), n0, e1, hA 1 (Or.inl rfl), hA 2 (Or.inr rfl)]
  refine ⟨⟨e1', e2, k1, ?_, k7, k8, k9⟩, fun k a b => ?_, fun k a b => by omega, fun k a b => ?_⟩
  · unfold suP; rw [e1, sm_0]; exact k2
  · rw [hA1, e _ (by omega) (by omega) (by omega) (by omega) (by omega) (by omega)]; exact hB k a b
  · unfold cnt; rw [e1, sm_0]; exact k3 k a b
theorem c_removePiece (hR : isRow c R) (hQ : isPlan c Q) (hr : RR A J R len g r) (hg : RG g r) (h0 : 0 ≤ r) (i : Int) (hi : 0 ≤ i ∧ i < cel g r 1) (hl : A (Q + 2) (cel g r (11 + i)) = len (cel g r (11 + i))) (hQR : ¬ inR R (Q + 2)) :
    ∃ A' J', fX3_removePiece R Q (ii i) (CW c A J) = some (Sum.inl (some (Value.int (ii (cel g r (11 + i))))), CW c A' J') ∧ RR A' J' R len (gTake g r i) r ∧ frm (inR R) A A' J J' := by
  have hrr := hr
  obtain ⟨⟨e1, e2, e4, e5, e7, e8, e9⟩, hB, hp, hc⟩ := hr
  have h1 := hg.1
  have h2 := hg.2.1
  have hv := hg.2.2.2.1 i hi.1 hi.2
  have e : ∀ w, 0 ≤ w → w < 512 → cel (gTake g r i) r w = _ := fun w a b => cel_gTake g r i r w ⟨⟨⟨⟨h0, h0⟩, a, b⟩, hi, h2.2⟩, hv⟩
  have hpa := c_pieceAt (c := c) (J := J) hR e4 h2 i hi
  rw [hp i hi.1 hi.2] at hpa
  have i0 : inR R R := by unfold inR; omega
  have i2 : inR R (R + 2) := by unfold inR; omega
  have i3 : inR R (R + 3) := by unfold inR; omega
  have hq : Q + 2 ≠ R := fun z => hQR (z ▸ i0)
  have hc0 := hc _ hv.1 hv.2
  simp (disch := first | assumption | omega) only [fX3_removePiece, rwI1, rwS1, rwI2, rwS2, rwI4, rwS4, rwI5, rwS5, rwI7, rwS7, rwI8, rwS8, rwI9, rwS9, rwR0, rwR3, rwR6, rwA1, rwU1, rwA3, rwU3, rwV, rwJ, rwUJ, plI0, plS0, plI1, plS1, plI2, plS2, plI3, plS3, plI4, plS4, plI5, plS5, plI6, plS6, plI7, plS7, plR8, plR9, plR10, plA1, plU1, plA2, plU2, plA3, plU3, plV, stI2, stS2, stI3, stS3, stI4, stS4, stI5, stS5, stI6, stS6, stI7, stS7, stR0, stR1, stA2, stU2, stV, stRow, svI5, svS5, svI6, svS6, svI7, svS7, svR0, svR1, svR2, svR3, svR4, svA13, svU13, svA14, svU14, svA15, svU15, svA16, svU16, svV, svRow, svF, svUF, hiI1, hiS1, hiI2, hiS2, hiR0, hiV, hiRow, rdI2, rdS2, rdI3, rdS3, rdI4, rdS4, rdI5, rdS5, rdI6, rdS6, rdI7, rdS7, rdI8, rdS8, rdR0, rdR1, rdA1, rdU1, rdA2, rdU2, rdV, k_C, il0, il1, il2, il3, il4, il5, il6, il7, il8, il9, il10, il11, il12, il15, il16, il20, il24, il31, il32, il44, il45, il48, il50, il57, il58, il59, il63, il91, il93, il97, il99, il100, il109, il113, il119, il120, il122, il200, il255, il480, il500, il501, il512, il999, il4112, il41120, il1000000, il1000003, ii_add, ii_sub, ii_mul, ii_neg, ii_le, ii_lt, ii_eq, ii_div, q_I, q_V, q_R, lt_q, rZ_q, md_M, md_16, md_4, md_8, md_10, if_true, if_false, if_pos, if_neg, hpa]
  refine lp (fun n j (W : JI) => fX3_removePiece_23 n R Q (ii (cel g r (11 + i))) (ii j) (CW c A W)) (fun x => ∃ A' J', x = some (Sum.inl (some (Value.int (ii (cel g r (11 + i))))), CW c A' J') ∧ RR A' J' R len (gTake g r i) r ∧ frm (inR R) A A' J J')
    (fun j W => (i + 1 ≤ j ∧ frm (inR R) A A J W) ∧ (∀ k, 0 ≤ k → k < i → nib (W (R + 2)) k = cel g r (11 + k)) ∧ (∀ k, i ≤ k → k + 1 < j → nib (W (R + 2)) k = cel g r (11 + (k + 1))) ∧ ∀ k, j ≤ k + 1 → i ≤ k → k < cel g r 1 → nib (W (R + 2)) k = cel g r (11 + k)) (cel g r 1) ?_ ?_ FU (i + 1) J (by omega) ⟨⟨by omega, frm.refl _ _ _⟩, fun k a b => hp k a (by omega), fun k a b => by omega, fun k a b d => hp k (by omega) d⟩ (by have := FU_e; omega)
  · rintro n j W hj ⟨⟨hJ, hf⟩, k2, k3, k4⟩
    have hvj := hg.2.2.2.1 j (by omega) hj
    have hpj := c_pieceAt (c := c) (A := A) (J := W) hR e4 h2 j (by omega)
    rw [k4 j (by omega) (by omega) hj] at hpj
    have hsp := c_setPiece (c := c) (A := A) (J := W) hR (j - 1) (cel g r (11 + j)) (by omega)
    refine Or.inr ⟨upJ W (R + 2) ((j - 1) / 16).toNat (nibS (W (R + 2) ((j - 1) / 16).toNat) ((j - 1) % 16 * 4) (cel g r (11 + j))), ⟨⟨by omega, frm_upJ hf _ _ _ i2⟩, fun k a b => ?_, fun k a b => ?_, fun k a b d => ?_⟩, ?_⟩
    · rw [nib_set W (R + 2) (j - 1) k _ (by omega) a (by omega), if_neg (by omega)]; exact k2 k a b
    · rw [nib_set W (R + 2) (j - 1) k _ (by omega) (by omega) (by omega)]
      by_cases q : k = j - 1
      · rw [if_pos q, q, show j - 1 + 1 = j by omega]
      · rw [if_neg q]; exact k3 k a (by omega)
    · rw [nib_set W (R + 2) (j - 1) k _ (by omega) (by omega) (by omega), if_neg (by omega)]; exact k4 k (by omega) b d
    · simp (disch := first | assumption | omega) only [fX3_removePiece_23, rwI1, rwS1, rwI2, rwS2, rwI4, rwS4, rwI5, rwS5, rwI7, rwS7, rwI8, rwS8, rwI9, rwS9, rwR0, rwR3, rwR6, rwA1, rwU1, rwA3, rwU3, rwV, rwJ, rwUJ, plI0, plS0, plI1, plS1, plI2, plS2, plI3, plS3, plI4, plS4, plI5, plS5, plI6, plS6, plI7, plS7, plR8, plR9, plR10, plA1, plU1, plA2, plU2, plA3, plU3, plV, stI2, stS2, stI3, stS3, stI4, stS4, stI5, stS5, stI6, stS6, stI7, stS7, stR0, stR1, stA2, stU2, stV, stRow, svI5, svS5, svI6, svS6, svI7, svS7, svR0, svR1, svR2, svR3, svR4, svA13, svU13, svA14, svU14, svA15, svU15, svA16, svU16, svV, svRow, svF, svUF, hiI1, hiS1, hiI2, hiS2, hiR0, hiV, hiRow, rdI2, rdS2, rdI3, rdS3, rdI4, rdS4, rdI5, rdS5, rdI6, rdS6, rdI7, rdS7, rdI8, rdS8, rdR0, rdR1, rdA1, rdU1, rdA2, rdU2, rdV, k_C, il0, il1, il2, il3, il4, il5, il6, il7, il8, il9, il10, il11, il12, il15, il16, il20, il24, il31, il32, il44, il45, il48, il50, il57, il58, il59, il63, il91, il93, il97, il99, il100, il109, il113, il119, il120, il122, il200, il255, il480, il500, il501, il512, il999, il4112, il41120, il1000000, il1000003, ii_add, ii_sub, ii_mul, ii_neg, ii_le, ii_lt, ii_eq, ii_div, q_I, q_V, q_R, lt_q, rZ_q, md_M, md_16, md_4, md_8, md_10, if_true, if_false, if_pos, if_neg, e4, hpj, hsp]
  · rintro n W ⟨⟨hJ, hf⟩, k2, k3, k4⟩
    refine ⟨up (up (up A R 4 (cel g r 1 - 1)) R 5 (suP len g r - len (cel g r (11 + i)))) (R + 3) (cel g r (11 + i)) (cnt g r (cel g r (11 + i)) - 1), W, ?_, ?_, frm_up (frm_up (frm_up hf _ _ _ i0) _ _ _ i0) _ _ _ i3⟩
    · simp (disch := first | assumption | omega) only [fX3_removePiece_23, fX3_removePiece_52, rwI1, rwS1, rwI2, rwS2, rwI4, rwS4, rwI5, rwS5, rwI7, rwS7, rwI8, rwS8, rwI9, rwS9, rwR0, rwR3, rwR6, rwA1, rwU1, rwA3, rwU3, rwV, rwJ, rwUJ, plI0, plS0, plI1, plS1, plI2, plS2, plI3, plS3, plI4, plS4, plI5, plS5, plI6, plS6, plI7, plS7, plR8, plR9, plR10, plA1, plU1, plA2, plU2, plA3, plU3, plV, stI2, stS2, stI3, stS3, stI4, stS4, stI5, stS5, stI6, stS6, stI7, stS7, stR0, stR1, stA2, stU2, stV, stRow, svI5, svS5, svI6, svS6, svI7, svS7, svR0, svR1, svR2, svR3, svR4, svA13, svU13, svA14, svU14, svA15, svU15, svA16, svU16, svV, svRow, svF, svUF, hiI1, hiS1, hiI2, hiS2, hiR0, hiV, hiRow, rdI2, rdS2, rdI3, rdS3, rdI4, rdS4, rdI5, rdS5, rdI6, rdS6, rdI7, rdS7, rdI8, rdS8, rdR0, rdR1, rdA1, rdU1, rdA2, rdU2, rdV, k_C, il0, il1, il2, il3, il4, il5, il6, il7, il8, il9, il10, il11, il12, il15, il16, il20, il24, il31, il32, il44, il45, il48, il50, il57, il58, il59, il63, il91, il93, il97, il99, il100, il109, il113, il119, il120, il122, il200, il255, il480, il500, il501, il512, il999, il4112, il41120, il1000000, il1000003, ii_add, ii_sub, ii_mul, ii_neg, ii_le, ii_lt, ii_eq, ii_div, q_I, q_V, q_R, lt_q, rZ_q, md_M, md_16, md_4, md_8, md_10, if_true, if_false, if_pos, if_neg, up_n, e4, e5, hl, hc0]
    · have n0 : cel (gTake g r i) r 0 = cel g r 0 := by rw [e 0 (by omega) (by omega), if_neg (by omega), if_neg (by omega)]
      have nb : ∀ k, 0 ≤ k → k < cel g r 0 → cel (gTake g r i) r (5 + k) = cel g r (5 + k) := fun k a b => by rw [e _ (by omega) (by omega), if_neg (by omega), if_neg (by omega)]
      have n1 : cel (gTake g r i) r 1 = cel g r 1 - 1 := by rw [e 1 (by omega) (by omega), if_pos (by omega)]
      have nlo : ∀ k, 0 ≤ k → k < i → cel (gTake g r i) r (11 + k) = cel g r (11 + k) := fun k a b => by rw [e _ (by omega) (by omega), if_neg (by omega), if_neg (by omega)]
      have nhi : ∀ k, i ≤ k → k < cel g r 1 - 1 → cel (gTake g r i) r (11 + k) = cel g r (11 + (k + 1)) := fun k a b => by rw [e _ (by omega) (by omega), if_neg (by omega), if_pos (by omega), show 11 + k + 1 = 11 + (k + 1) by omega]
      have s0 : ∀ F : Int → Int, sm (fun k => F (cel (gTake g r i) r (11 + k))) (cel g r 1 - 1) = sm (fun k => F (cel g r (11 + k))) (cel g r 1) - F (cel g r (11 + i)) := by
        intro F
        have hd := sm_del (fun k => F (cel g r (11 + k))) (fun k => F (cel (gTake g r i) r (11 + k))) i (cel g r 1 - 1).toNat hi.1 (by omega) (fun k a b => by rw [nlo k a b]) (fun k a b => by rw [nhi k a (by omega)])
        rw [show (((cel g r 1 - 1).toNat : Nat) : Int) = cel g r 1 - 1 by omega, show cel g r 1 - 1 + 1 = cel g r 1 by omega] at hd
        omega
      have s1 : suP len (gTake g r i) r = suP len g r - len (cel g r (11 + i)) := by
        unfold suP
        rw [n1]
        exact s0 len
      have s2 : ∀ k, cnt (gTake g r i) r k = cnt g r k - (if cel g r (11 + i) = k then 1 else 0) := by
        intro k
        unfold cnt
        rw [n1]
        exact s0 (fun x => if x = k then 1 else 0)
      unfold RR
      rw [s1, suB_cong n0 nb, n1, n0, e 2 (by omega) (by omega), if_neg (by omega), if_neg (by omega), e 3 (by omega) (by omega), if_neg (by omega), if_neg (by omega), e 4 (by omega) (by omega), if_neg (by omega), if_neg (by omega)]
      refine ⟨?_, fun k a b => ?_, fun k a b => ?_, fun k a b => ?_⟩
      · simp (disch := first | assumption | omega) only [up_s, up_n]
        exact ⟨e1, e2, trivial, trivial, e7, e8, e9⟩
      · rw [nb k a b, ← hB k a b]
        simp (disch := first | assumption | omega) only [up_n]
      · by_cases q : k < i
        · rw [nlo k a q]; exact k2 k a q
        · rw [nhi k (by omega) b]; exact k3 k (by omega) (by omega)
      · rw [s2 k]
        by_cases q : cel g r (11 + i) = k
        · rw [if_pos q, q, up_s]
        · rw [if_neg q, up_n _ _ _ _ _ _ (by omega), up_n _ _ _ _ _ _ (by omega), up_n _ _ _ _ _ _ (by omega), hc k a b]; omega
end CROW3
