/-! THE CLASS'S STATES -/
def inS (S b : Nat) : Prop := S ≤ b ∧ b < S + 35
def SR (A : AI) (J : JI) (S : Nat) (len g : Int → Int) (f : Int) : Prop :=
  ((A S 2 = g 0 ∧ A S 3 = g 1 ∧ A S 4 = g 2 ∧ A S 5 = g 3 ∧ A S 6 = g 4 ∧ A S 7 = f) ∧ ∀ k, 0 ≤ k → k < 10 → A (S + 2) k = g (6 + k)) ∧ ∀ r, 0 ≤ r → r < 8 → RR A J (rc S r) len g r
theorem rc_in {S : Nat} {r : Int} (h : 0 ≤ r ∧ r < 8) {b : Nat} (hb : inR (rc S r) b) : (inS S b ∧ b ≠ S ∧ b ≠ S + 2) ∧ b ≠ S + 1 := by
  unfold inR rc at hb
  unfold inS
  omega
theorem rc_ne {S : Nat} {r r2 : Int} (h : 0 ≤ r ∧ r < 8) (h2 : 0 ≤ r2 ∧ r2 < 8) (hn : r2 ≠ r) {b : Nat} (hb : inR (rc S r2) b) : ¬ inR (rc S r) b := by
  unfold inR rc at *
  omega
theorem SR_upd {A A' : AI} {J J' : JI} {S : Nat} {len g g' : Int → Int} {f f' : Int} (h : SR A J S len g f) (hg : GR g) (r : Int) (hr : 0 ≤ r ∧ r < 8) (hrow : RR A' J' (rc S r) len g' r)
    (hlo : (A' S 2 = g' 0 ∧ A' S 3 = g' 1 ∧ A' S 4 = g' 2 ∧ A' S 5 = g' 3 ∧ A' S 6 = g' 4 ∧ A' S 7 = f') ∧ ∀ k, 0 ≤ k → k < 10 → A' (S + 2) k = g' (6 + k))
    (hA : ∀ (b : Nat) (z : Int), b ≠ S → b ≠ S + 2 → ¬ inR (rc S r) b → inS S b → A' b z = A b z) (hJ : ∀ (b j : Nat), ¬ inR (rc S r) b → inS S b → J' b j = J b j) (e : ∀ r2 w, 0 ≤ r2 → r2 < 8 → r2 ≠ r → 0 ≤ w → w < 512 → cel g' r2 w = cel g r2 w) : SR A' J' S len g' f' := by
  refine ⟨hlo, fun r2 a b => ?_⟩
  by_cases q : r2 = r
  · rw [q]; exact hrow
  · refine RR.frame (h.2 r2 a b) (hg r2 a b) (fun x z hx => ?_) (fun x j hx => ?_) (fun w c d => e r2 w a b q c d)
    · have h1 := rc_in ⟨a, b⟩ hx
      exact hA x z h1.1.2.1 h1.1.2.2 (rc_ne hr ⟨a, b⟩ q hx) h1.1.1
    · have h1 := rc_in ⟨a, b⟩ hx
      exact hJ x j (rc_ne hr ⟨a, b⟩ q hx) h1.1.1
theorem SR_frame {A A' : AI} {J J' : JI} {S : Nat} {len g : Int → Int} {f : Int} (h : SR A J S len g f) (hg : GR g) (hA : ∀ (b : Nat) (z : Int), inS S b → A' b z = A b z) (hJ : ∀ (b j : Nat), inS S b → J' b j = J b j) : SR A' J' S len g f := by
  have s0 : inS S S := by unfold inS; omega
  have s2 : inS S (S + 2) := by unfold inS; omega
  refine ⟨⟨?_, fun k a b => by rw [hA _ _ s2]; exact h.1.2 k a b⟩, fun r a b => RR.frame (h.2 r a b) (hg r a b) (fun x z hx => hA x z (rc_in ⟨a, b⟩ hx).1.1) (fun x z hx => hJ x z (rc_in ⟨a, b⟩ hx).1.1) (fun _ _ _ => rfl)⟩
  rw [hA _ _ s0, hA _ _ s0, hA _ _ s0, hA _ _ s0, hA _ _ s0, hA _ _ s0]
  exact h.1.1
theorem PR_frm {A A' : AI} {Q : Nat} {M : AI} (h : PR A Q M) (hA : ∀ (b : Nat) (z : Int), (Q ≤ b ∧ b < Q + 4) → A' b z = A b z) : PR A' Q M := by
  obtain ⟨h1, h2, h3⟩ := h
  have e : A' (Q + 3) = A (Q + 3) := funext fun z => hA _ z (by omega)
  refine ⟨?_, fun k a b => ?_, by rw [e]; exact h3⟩
  · rw [hA Q 0 (by omega), hA Q 1 (by omega), hA Q 2 (by omega), hA Q 3 (by omega), hA Q 4 (by omega), hA Q 5 (by omega), hA Q 6 (by omega), hA Q 7 (by omega)]
    exact h1
  · rw [hA (Q + 1) k (by omega), hA (Q + 2) k (by omega)]
    exact h2 k a b
/-- the plan's cells are apart from the state's -/
abbrev apQ (Q S : Nat) : Prop := Q + 4 ≤ S ∨ S + 35 ≤ Q
theorem PR_S {A A' : AI} {J J' : JI} {Q S : Nat} {M : AI} (h : PR A Q M) (ha : apQ Q S) (hf : frm (inS S) A A' J J') : PR A' Q M :=
  PR_frm h fun b z hb => hf.1 b z (by unfold inS; omega)
/-- a row whose quoin and slack alone are other -/
theorem RR.s234 {A A' : AI} {J : JI} {R : Nat} {len g g' : Int → Int} {r : Int} (hr : RR A J R len g r) (hg : RG g r) (e : ∀ w, 0 ≤ w → w < 512 → w ≠ 2 → w ≠ 3 → w ≠ 4 → cel g' r w = cel g r w) (hA : ∀ z, z ≠ 7 → z ≠ 8 → z ≠ 9 → A' R z = A R z) (hA1 : ∀ (b : Nat) (z : Int), b = R + 1 ∨ b = R + 3 → A' b z = A b z) (k7 : A' R 7 = cel g' r 2) (k8 : A' R 8 = cel g' r 3) (k9 : A' R 9 = cel g' r 4) : RR A' J R len g' r := by
  obtain ⟨⟨e1', e2, e4, e5, e7, e8, e9⟩, hB, hp, hc⟩ := hr
  have h1 := hg.1
  have h2 := hg.2.1
  have n0 := e 0 (by omega) (by omega) (by omega) (by omega) (by omega)
  have n1 := e 1 (by omega) (by omega) (by omega) (by omega) (by omega)
  have np : ∀ k, 0 ≤ k → k < cel g r 1 → cel g' r (11 + k) = cel g r (11 + k) := fun k a b => e _ (by omega) (by omega) (by omega) (by omega) (by omega)
  unfold RR
  rw [suB_cong n0 (fun k a b => e _ (by omega) (by omega) (by omega) (by omega) (by omega)), suP_cong n1 np, n0, n1, hA 1 (by omega) (by omega) (by omega), hA 2 (by omega) (by omega) (by omega), hA 4 (by omega) (by omega) (by omega), hA 5 (by omega) (by omega) (by omega)]
  refine ⟨⟨e1', e2, e4, e5, k7, k8, k9⟩, fun k a b => ?_, fun k a b => ?_, fun k a b => ?_⟩
  · rw [hA1 _ _ (Or.inl rfl), e _ (by omega) (by omega) (by omega) (by omega) (by omega)]; exact hB k a b
  · rw [np k a b]; exact hp k a b
  · rw [hA1 _ _ (Or.inr rfl), cnt_cong n1 np]; exact hc k a b
/-- without a quoin there is no take-up -/
abbrev QZ (g : Int → Int) : Prop := ∀ r, 0 ≤ r → r < 8 → cel g r 2 = -1 → cel g r 3 = 0
section CST
variable {c : CC} {A : AI} {J : JI} {S Q : Nat} {M : AI} {len g : Int → Int} {f : Int}
theorem s_canHave (hS : isState c S) (h : SR A J S len g f) (hg : GR g) (r : Int) (hr : 0 ≤ r ∧ r < 8) (h0 : 0 ≤ g 0 ∧ g 0 ≤ 1000) : fX5_canHaveQuoin S (rc S r) (CW c A J) = some (Sum.inl (some (Value.int (ii (if canO g r then 1 else 0)))), CW c A J) := by
  have hR := hS.row r hr
  have hrr := h.2 r hr.1 hr.2
  have e7 := hrr.1.2.2.2.2.1
  have e2 := h.1.1.1
  have h7 := (hg r hr.1 hr.2).2.2.2.2.1
  have hv : -1 ≤ A (rc S r) 7 ∧ A (rc S r) 7 ≤ 20 := by rw [e7]; exact h7
  have hq := c_hasQuoin (A := A) (J := J) hR hv
  rw [e7] at hq
  by_cases q : cel g r 2 = -1
  · by_cases q2 : g 0 ≤ 0
    · simp (disch := first | assumption | omega) only [fX5_canHaveQuoin, rwI1, rwS1, rwI2, rwS2, rwI4, rwS4, rwI5, rwS5, rwI7, rwS7, rwI8, rwS8, rwI9, rwS9, rwR0, rwR3, rwR6, rwA1, rwU1, rwA3, rwU3, rwV, rwJ, rwUJ, plI0, plS0, plI1, plS1, plI2, plS2, plI3, plS3, plI4, plS4, plI5, plS5, plI6, plS6, plI7, plS7, plR8, plR9, plR10, plA1, plU1, plA2, plU2, plA3, plU3, plV, stI2, stS2, stI3, stS3, stI4, stS4, stI5, stS5, stI6, stS6, stI7, stS7, stR0, stR1, stA2, stU2, stV, stRow, svI5, svS5, svI6, svS6, svI7, svS7, svR0, svR1, svR2, svR3, svR4, svA13, svU13, svA14, svU14, svA15, svU15, svA16, svU16, svV, svRow, svF, svUF, hiI1, hiS1, hiI2, hiS2, hiR0, hiV, hiRow, rdI2, rdS2, rdI3, rdS3, rdI4, rdS4, rdI5, rdS5, rdI6, rdS6, rdI7, rdS7, rdI8, rdS8, rdR0, rdR1, rdA1, rdU1, rdA2, rdU2, rdV, k_C, il0, il1, il2, il3, il4, il5, il6, il7, il8, il9, il10, il11, il12, il15, il16, il20, il24, il31, il32, il44, il45, il48, il50, il57, il58, il59, il63, il91, il93, il97, il99, il100, il109, il113, il119, il120, il122, il200, il255, il480, il500, il501, il512, il999, il4112, il41120, il1000000, il1000003, ii_add, ii_sub, ii_mul, ii_neg, ii_le, ii_lt, ii_eq, ii_div, q_I, q_V, q_R, lt_q, rZ_q, md_M, md_16, md_4, md_8, md_10, if_true, if_false, if_pos, if_neg, hq, e2]
    · simp (disch := first | assumption | omega) only [fX5_canHaveQuoin, rwI1, rwS1, rwI2, rwS2, rwI4, rwS4, rwI5, rwS5, rwI7, rwS7, rwI8, rwS8, rwI9, rwS9, rwR0, rwR3, rwR6, rwA1, rwU1, rwA3, rwU3, rwV, rwJ, rwUJ, plI0, plS0, plI1, plS1, plI2, plS2, plI3, plS3, plI4, plS4, plI5, plS5, plI6, plS6, plI7, plS7, plR8, plR9, plR10, plA1, plU1, plA2, plU2, plA3, plU3, plV, stI2, stS2, stI3, stS3, stI4, stS4, stI5, stS5, stI6, stS6, stI7, stS7, stR0, stR1, stA2, stU2, stV, stRow, svI5, svS5, svI6, svS6, svI7, svS7, svR0, svR1, svR2, svR3, svR4, svA13, svU13, svA14, svU14, svA15, svU15, svA16, svU16, svV, svRow, svF, svUF, hiI1, hiS1, hiI2, hiS2, hiR0, hiV, hiRow, rdI2, rdS2, rdI3, rdS3, rdI4, rdS4, rdI5, rdS5, rdI6, rdS6, rdI7, rdS7, rdI8, rdS8, rdR0, rdR1, rdA1, rdU1, rdA2, rdU2, rdV, k_C, il0, il1, il2, il3, il4, il5, il6, il7, il8, il9, il10, il11, il12, il15, il16, il20, il24, il31, il32, il44, il45, il48, il50, il57, il58, il59, il63, il91, il93, il97, il99, il100, il109, il113, il119, il120, il122, il200, il255, il480, il500, il501, il512, il999, il4112, il41120, il1000000, il1000003, ii_add, ii_sub, ii_mul, ii_neg, ii_le, ii_lt, ii_eq, ii_div, q_I, q_V, q_R, lt_q, rZ_q, md_M, md_16, md_4, md_8, md_10, if_true, if_false, if_pos, if_neg, hq, e2]
  · simp (disch := first | assumption | omega) only [fX5_canHaveQuoin, rwI1, rwS1, rwI2, rwS2, rwI4, rwS4, rwI5, rwS5, rwI7, rwS7, rwI8, rwS8, rwI9, rwS9, rwR0, rwR3, rwR6, rwA1, rwU1, rwA3, rwU3, rwV, rwJ, rwUJ, plI0, plS0, plI1, plS1, plI2, plS2, plI3, plS3, plI4, plS4, plI5, plS5, plI6, plS6, plI7, plS7, plR8, plR9, plR10, plA1, plU1, plA2, plU2, plA3, plU3, plV, stI2, stS2, stI3, stS3, stI4, stS4, stI5, stS5, stI6, stS6, stI7, stS7, stR0, stR1, stA2, stU2, stV, stRow, svI5, svS5, svI6, svS6, svI7, svS7, svR0, svR1, svR2, svR3, svR4, svA13, svU13, svA14, svU14, svA15, svU15, svA16, svU16, svV, svRow, svF, svUF, hiI1, hiS1, hiI2, hiS2, hiR0, hiV, hiRow, rdI2, rdS2, rdI3, rdS3, rdI4, rdS4, rdI5, rdS5, rdI6, rdS6, rdI7, rdS7, rdI8, rdS8, rdR0, rdR1, rdA1, rdU1, rdA2, rdU2, rdV, k_C, il0, il1, il2, il3, il4, il5, il6, il7, il8, il9, il10, il11, il12, il15, il16, il20, il24, il31, il32, il44, il45, il48, il50, il57, il58, il59, il63, il91, il93, il97, il99, il100, il109, il113, il119, il120, il122, il200, il255, il480, il500, il501, il512, il999, il4112, il41120, il1000000, il1000003, ii_add, ii_sub, ii_mul, ii_neg, ii_le, ii_lt, ii_eq, ii_div, q_I, q_V, q_R, lt_q, rZ_q, md_M, md_16, md_4, md_8, md_10, if_true, if_false, if_pos, if_neg, hq, e2]
theorem s_setQuoin (hS : isState c S) (h : SR A J S len g f) (hg : GR g) (r op : Int) (hr : 0 ≤ r ∧ r < 8) (ho : 0 ≤ op) : ∃ A', fX5_setQuoin S (rc S r) (ii op) (CW c A J) = some (Sum.inl none, CW c A' J) ∧ SR A' J S len (gQ g r op) f ∧ frm (inS S) A A' J J := by
  have hR := hS.row r hr
  have hrr := h.2 r hr.1 hr.2
  have e7 := hrr.1.2.2.2.2.1
  have e9 := hrr.1.2.2.2.2.2.2
  have e2 := h.1.1.1
  have h7 := (hg r hr.1 hr.2).2.2.2.2.1
  have hv : -1 ≤ A (rc S r) 7 ∧ A (rc S r) 7 ≤ 20 := by rw [e7]; exact h7
  have hq := c_hasQuoin (A := A) (J := J) hR hv
  rw [e7] at hq
  have iR : inR (rc S r) (rc S r) := by unfold inR; omega
  have i0 : inS S S := by unfold inS; omega
  have i1 := (rc_in hr iR).1.1
  have hne := (rc_in hr iR).1.2
  have hne3 : rc S r ≠ S := hne.1
  have ec := fun (r2 w : Int) (a : 0 ≤ r2) (b : 0 ≤ w ∧ w < 512) => cel_gQ g r op r2 w ⟨⟨hr.1, a⟩, b⟩
  have el := fun (z : Int) (a : z < 16) => lo_gQ g r op z ⟨hr.1, a⟩
  refine ⟨up (up (up A S 2 (gQ g r op 0)) (rc S r) 7 op) (rc S r) 8 0, ?_, ?_, frm_up (frm_up (frm_up (frm.refl _ _ _) _ _ _ i0) _ _ _ i1) _ _ _ i1⟩
  · by_cases q : cel g r 2 = -1
    · have e0 : gQ g r op 0 = g 0 - 1 := by rw [el 0 (by omega), if_pos ⟨rfl, by omega, q⟩]
      simp (disch := first | assumption | omega) only [fX5_setQuoin, fX5_setQuoin_17, rwI1, rwS1, rwI2, rwS2, rwI4, rwS4, rwI5, rwS5, rwI7, rwS7, rwI8, rwS8, rwI9, rwS9, rwR0, rwR3, rwR6, rwA1, rwU1, rwA3, rwU3, rwV, rwJ, rwUJ, plI0, plS0, plI1, plS1, plI2, plS2, plI3, plS3, plI4, plS4, plI5, plS5, plI6, plS6, plI7, plS7, plR8, plR9, plR10, plA1, plU1, plA2, plU2, plA3, plU3, plV, stI2, stS2, stI3, stS3, stI4, stS4, stI5, stS5, stI6, stS6, stI7, stS7, stR0, stR1, stA2, stU2, stV, stRow, svI5, svS5, svI6, svS6, svI7, svS7, svR0, svR1, svR2, svR3, svR4, svA13, svU13, svA14, svU14, svA15, svU15, svA16, svU16, svV, svRow, svF, svUF, hiI1, hiS1, hiI2, hiS2, hiR0, hiV, hiRow, rdI2, rdS2, rdI3, rdS3, rdI4, rdS4, rdI5, rdS5, rdI6, rdS6, rdI7, rdS7, rdI8, rdS8, rdR0, rdR1, rdA1, rdU1, rdA2, rdU2, rdV, k_C, il0, il1, il2, il3, il4, il5, il6, il7, il8, il9, il10, il11, il12, il15, il16, il20, il24, il31, il32, il44, il45, il48, il50, il57, il58, il59, il63, il91, il93, il97, il99, il100, il109, il113, il119, il120, il122, il200, il255, il480, il500, il501, il512, il999, il4112, il41120, il1000000, il1000003, ii_add, ii_sub, ii_mul, ii_neg, ii_le, ii_lt, ii_eq, ii_div, q_I, q_V, q_R, lt_q, rZ_q, md_M, md_16, md_4, md_8, md_10, if_true, if_false, if_pos, if_neg, hq, e2, e0]
    · have e0 : gQ g r op 0 = g 0 := by rw [el 0 (by omega), if_neg (fun z => q z.2.2)]
      have e3 : up A S 2 (gQ g r op 0) = A := by
        funext b z
        unfold up
        split
        case isTrue p => rw [p.1, p.2, e0, e2]
        case isFalse p => rfl
      rw [e3]
      simp (disch := first | assumption | omega) only [fX5_setQuoin, fX5_setQuoin_17, rwI1, rwS1, rwI2, rwS2, rwI4, rwS4, rwI5, rwS5, rwI7, rwS7, rwI8, rwS8, rwI9, rwS9, rwR0, rwR3, rwR6, rwA1, rwU1, rwA3, rwU3, rwV, rwJ, rwUJ, plI0, plS0, plI1, plS1, plI2, plS2, plI3, plS3, plI4, plS4, plI5, plS5, plI6, plS6, plI7, plS7, plR8, plR9, plR10, plA1, plU1, plA2, plU2, plA3, plU3, plV, stI2, stS2, stI3, stS3, stI4, stS4, stI5, stS5, stI6, stS6, stI7, stS7, stR0, stR1, stA2, stU2, stV, stRow, svI5, svS5, svI6, svS6, svI7, svS7, svR0, svR1, svR2, svR3, svR4, svA13, svU13, svA14, svU14, svA15, svU15, svA16, svU16, svV, svRow, svF, svUF, hiI1, hiS1, hiI2, hiS2, hiR0, hiV, hiRow, rdI2, rdS2, rdI3, rdS3, rdI4, rdS4, rdI5, rdS5, rdI6, rdS6, rdI7, rdS7, rdI8, rdS8, rdR0, rdR1, rdA1, rdU1, rdA2, rdU2, rdV, k_C, il0, il1, il2, il3, il4, il5, il6, il7, il8, il9, il10, il11, il12, il15, il16, il20, il24, il31, il32, il44, il45, il48, il50, il57, il58, il59, il63, il91, il93, il97, il99, il100, il109, il113, il119, il120, il122, il200, il255, il480, il500, il501, il512, il999, il4112, il41120, il1000000, il1000003, ii_add, ii_sub, ii_mul, ii_neg, ii_le, ii_lt, ii_eq, ii_div, q_I, q_V, q_R, lt_q, rZ_q, md_M, md_16, md_4, md_8, md_10, if_true, if_false, if_pos, if_neg, hq, e2]
  · refine SR_upd h hg r hr ?_ ⟨?_, fun k a b => ?_⟩ (fun b z p q s _ => ?_) (fun _ _ _ _ => rfl) (fun r2 w a b p d e => by rw [ec r2 w a ⟨d, e⟩, if_neg (by omega), if_neg (by omega)])
    · refine RR.s234 hrr (hg r hr.1 hr.2) (fun w a b p q s => by rw [ec r w hr.1 ⟨a, b⟩, if_neg (by omega), if_neg (by omega)]) (fun z p q s => by rw [up_n _ _ _ _ _ _ (by omega), up_n _ _ _ _ _ _ (by omega), up_n _ _ _ _ _ _ (by omega)]) (fun b z p => ?_) ?_ ?_ ?_
      · have hb := (rc_in (S := S) hr (b := b) (by unfold inR; omega)).1.2
        rw [up_n _ _ _ _ _ _ (by omega), up_n _ _ _ _ _ _ (by omega), up_n _ _ _ _ _ _ (by omega)]
      · rw [ec r 2 hr.1 (by omega), if_neg (by omega), if_pos (by omega), up_n _ _ _ _ _ _ (by omega), up_s]
      · rw [ec r 3 hr.1 (by omega), if_pos (by omega), up_s]
      · rw [ec r 4 hr.1 (by omega), if_neg (by omega), if_neg (by omega), up_n _ _ _ _ _ _ (by omega), up_n _ _ _ _ _ _ (by omega), up_n _ _ _ _ _ _ (by omega)]; exact e9
    · obtain ⟨a0, a1, a2, a3, a4, a5⟩ := h.1.1
      rw [el 1 (by omega), if_neg (by omega), el 2 (by omega), if_neg (by omega), el 3 (by omega), if_neg (by omega), el 4 (by omega), if_neg (by omega)]
      simp (disch := first | assumption | omega) only [up_s, up_n]
      exact ⟨trivial, a1, a2, a3, a4, a5⟩
    · rw [el (6 + k) (by omega), if_neg (by omega), up_n _ _ _ _ _ _ (by omega), up_n _ _ _ _ _ _ (by omega), up_n _ _ _ _ _ _ (by omega)]; exact h.1.2 k a b
    · rw [up_n _ _ _ _ _ _ (fun e => s (by rw [e.1]; exact iR)), up_n _ _ _ _ _ _ (fun e => s (by rw [e.1]; exact iR)), up_n _ _ _ _ _ _ (by omega)]
theorem s_removeQuoin (hS : isState c S) (h : SR A J S len g f) (hg : GR g) (hz : QZ g) (r : Int) (hr : 0 ≤ r ∧ r < 8) : ∃ A', fX5_removeQuoin S (rc S r) (CW c A J) = some (Sum.inl none, CW c A' J) ∧ SR A' J S len (gNoQ g r) f ∧ frm (inS S) A A' J J := by
  have hR := hS.row r hr
  have hrr := h.2 r hr.1 hr.2
  have e7 := hrr.1.2.2.2.2.1
  have e8 := hrr.1.2.2.2.2.2.1
  have e9 := hrr.1.2.2.2.2.2.2
  have e2 := h.1.1.1
  have h7 := (hg r hr.1 hr.2).2.2.2.2.1
  have hv : -1 ≤ A (rc S r) 7 ∧ A (rc S r) 7 ≤ 20 := by rw [e7]; exact h7
  have hq := c_hasQuoin (A := A) (J := J) hR hv
  rw [e7] at hq
  have iR : inR (rc S r) (rc S r) := by unfold inR; omega
  have i0 : inS S S := by unfold inS; omega
  have i1 := (rc_in hr iR).1.1
  have hne := (rc_in hr iR).1.2
  have hne3 : rc S r ≠ S := hne.1
  have ec := fun (r2 w : Int) (a : 0 ≤ r2) (b : 0 ≤ w ∧ w < 512) => cel_gNoQ g r r2 w ⟨⟨hr.1, a⟩, b⟩
  have el := fun (z : Int) (a : z < 16) => lo_gNoQ g r z ⟨hr.1, a⟩
  refine ⟨up (up (up A S 2 (gNoQ g r 0)) (rc S r) 7 (-1)) (rc S r) 8 0, ?_, ?_, frm_up (frm_up (frm_up (frm.refl _ _ _) _ _ _ i0) _ _ _ i1) _ _ _ i1⟩
  · by_cases q : cel g r 2 = -1
    · have e0 : gNoQ g r 0 = g 0 := by rw [el 0 (by omega), if_neg (fun z => z.2 q)]
      have e3 : up A S 2 (gNoQ g r 0) = A := by
        funext b z
        unfold up
        split
        case isTrue p => rw [p.1, p.2, e0, e2]
        case isFalse p => rfl
      rw [e3]
      simp (disch := first | assumption | omega) only [fX5_removeQuoin, fX5_removeQuoin_17, rwI1, rwS1, rwI2, rwS2, rwI4, rwS4, rwI5, rwS5, rwI7, rwS7, rwI8, rwS8, rwI9, rwS9, rwR0, rwR3, rwR6, rwA1, rwU1, rwA3, rwU3, rwV, rwJ, rwUJ, plI0, plS0, plI1, plS1, plI2, plS2, plI3, plS3, plI4, plS4, plI5, plS5, plI6, plS6, plI7, plS7, plR8, plR9, plR10, plA1, plU1, plA2, plU2, plA3, plU3, plV, stI2, stS2, stI3, stS3, stI4, stS4, stI5, stS5, stI6, stS6, stI7, stS7, stR0, stR1, stA2, stU2, stV, stRow, svI5, svS5, svI6, svS6, svI7, svS7, svR0, svR1, svR2, svR3, svR4, svA13, svU13, svA14, svU14, svA15, svU15, svA16, svU16, svV, svRow, svF, svUF, hiI1, hiS1, hiI2, hiS2, hiR0, hiV, hiRow, rdI2, rdS2, rdI3, rdS3, rdI4, rdS4, rdI5, rdS5, rdI6, rdS6, rdI7, rdS7, rdI8, rdS8, rdR0, rdR1, rdA1, rdU1, rdA2, rdU2, rdV, k_C, il0, il1, il2, il3, il4, il5, il6, il7, il8, il9, il10, il11, il12, il15, il16, il20, il24, il31, il32, il44, il45, il48, il50, il57, il58, il59, il63, il91, il93, il97, il99, il100, il109, il113, il119, il120, il122, il200, il255, il480, il500, il501, il512, il999, il4112, il41120, il1000000, il1000003, ii_add, ii_sub, ii_mul, ii_neg, ii_le, ii_lt, ii_eq, ii_div, q_I, q_V, q_R, lt_q, rZ_q, md_M, md_16, md_4, md_8, md_10, if_true, if_false, if_pos, if_neg, hq, e2]
    · have e0 : gNoQ g r 0 = g 0 + 1 := by rw [el 0 (by omega), if_pos ⟨rfl, q⟩]
      simp (disch := first | assumption | omega) only [fX5_removeQuoin, fX5_removeQuoin_17, rwI1, rwS1, rwI2, rwS2, rwI4, rwS4, rwI5, rwS5, rwI7, rwS7, rwI8, rwS8, rwI9, rwS9, rwR0, rwR3, rwR6, rwA1, rwU1, rwA3, rwU3, rwV, rwJ, rwUJ, plI0, plS0, plI1, plS1, plI2, plS2, plI3, plS3, plI4, plS4, plI5, plS5, plI6, plS6, plI7, plS7, plR8, plR9, plR10, plA1, plU1, plA2, plU2, plA3, plU3, plV, stI2, stS2, stI3, stS3, stI4, stS4, stI5, stS5, stI6, stS6, stI7, stS7, stR0, stR1, stA2, stU2, stV, stRow, svI5, svS5, svI6, svS6, svI7, svS7, svR0, svR1, svR2, svR3, svR4, svA13, svU13, svA14, svU14, svA15, svU15, svA16, svU16, svV, svRow, svF, svUF, hiI1, hiS1, hiI2, hiS2, hiR0, hiV, hiRow, rdI2, rdS2, rdI3, rdS3, rdI4, rdS4, rdI5, rdS5, rdI6, rdS6, rdI7, rdS7, rdI8, rdS8, rdR0, rdR1, rdA1, rdU1, rdA2, rdU2, rdV, k_C, il0, il1, il2, il3, il4, il5, il6, il7, il8, il9, il10, il11, il12, il15, il16, il20, il24, il31, il32, il44, il45, il48, il50, il57, il58, il59, il63, il91, il93, il97, il99, il100, il109, il113, il119, il120, il122, il200, il255, il480, il500, il501, il512, il999, il4112, il41120, il1000000, il1000003, ii_add, ii_sub, ii_mul, ii_neg, ii_le, ii_lt, ii_eq, ii_div, q_I, q_V, q_R, lt_q, rZ_q, md_M, md_16, md_4, md_8, md_10, if_true, if_false, if_pos, if_neg, hq, e2, e0]
  · refine SR_upd h hg r hr ?_ ⟨?_, fun k a b => ?_⟩ (fun b z p q s _ => ?_) (fun _ _ _ _ => rfl) (fun r2 w a b p d e => by rw [ec r2 w a ⟨d, e⟩, if_neg (by omega), if_neg (by omega)])
    · refine RR.s234 hrr (hg r hr.1 hr.2) (fun w a b p q s => by rw [ec r w hr.1 ⟨a, b⟩, if_neg (by omega), if_neg (by omega)]) (fun z p q s => by rw [up_n _ _ _ _ _ _ (by omega), up_n _ _ _ _ _ _ (by omega), up_n _ _ _ _ _ _ (by omega)]) (fun b z p => ?_) ?_ ?_ ?_
      · have hb := (rc_in (S := S) hr (b := b) (by unfold inR; omega)).1.2
        rw [up_n _ _ _ _ _ _ (by omega), up_n _ _ _ _ _ _ (by omega), up_n _ _ _ _ _ _ (by omega)]
      · rw [ec r 2 hr.1 (by omega), if_pos (by omega), up_n _ _ _ _ _ _ (by omega), up_s]
      · rw [ec r 3 hr.1 (by omega), if_neg (by omega), up_s]
        by_cases q : cel g r 2 = -1
        · rw [if_neg (fun z => z.2.2 q), hz r hr.1 hr.2 q]
        · rw [if_pos ⟨rfl, rfl, q⟩]
      · rw [ec r 4 hr.1 (by omega), if_neg (by omega), if_neg (by omega), up_n _ _ _ _ _ _ (by omega), up_n _ _ _ _ _ _ (by omega), up_n _ _ _ _ _ _ (by omega)]; exact e9
    · obtain ⟨a0, a1, a2, a3, a4, a5⟩ := h.1.1
      rw [el 1 (by omega), if_neg (by omega), el 2 (by omega), if_neg (by omega), el 3 (by omega), if_neg (by omega), el 4 (by omega), if_neg (by omega)]
      simp (disch := first | assumption | omega) only [up_s, up_n]
      exact ⟨trivial, a1, a2, a3, a4, a5⟩
    · rw [el (6 + k) (by omega), if_neg (by omega), up_n _ _ _ _ _ _ (by omega), up_n _ _ _ _ _ _ (by omega), up_n _ _ _ _ _ _ (by omega)]; exact h.1.2 k a b
    · rw [up_n _ _ _ _ _ _ (fun e => s (by rw [e.1]; exact iR)), up_n _ _ _ _ _ _ (fun e => s (by rw [e.1]; exact iR)), up_n _ _ _ _ _ _ (by omega)]
theorem s_moveIn (hS : isState c S) (hQ : isPlan c Q) (ha : apQ Q S) (h : SR A J S len g f) (hg : GR g) (r d : Int) (hr : 0 ≤ r ∧ r < 8) (hd : 0 ≤ d ∧ d < 10) (hl : A (Q + 2) d = len d) (hb : cel g r 1 < 500) : ∃ A' J', fX5_movePieceIn S Q (rc S r) (ii d) (CW c A J) = some (Sum.inl none, CW c A' J') ∧ SR A' J' S len (gPut g r d) f ∧ frm (inS S) A A' J J' := by
  have hR := hS.row r hr
  have hrr := h.2 r hr.1 hr.2
  have hgr := hg r hr.1 hr.2
  have e6 := h.1.2 d hd.1 hd.2
  have i0 : inR (rc S r) (rc S r) := by unfold inR; omega
  have i2 : inR (rc S r) (rc S r + 2) := by unfold inR; omega
  have i3 : inR (rc S r) (rc S r + 3) := by unfold inR; omega
  have j2 : inS S (S + 2) := by unfold inS; omega
  have hQR : ¬ inR (rc S r) (Q + 2) := fun z => by
    have := (rc_in hr z).1.1
    unfold inS at this
    omega
  have n0 := (rc_in hr i0).1.2
  have n3 := (rc_in hr i3).1.2
  have ec := fun (r2 w : Int) (a : 0 ≤ r2) (b : 0 ≤ w ∧ w < 512) => cel_gPut g r d r2 w ⟨⟨⟨hr.1, a⟩, b⟩, hgr.2.1, hd⟩
  have el := fun (z : Int) (a : z < 16) => lo_gPut g r d z ⟨⟨hr.1, a⟩, hgr.2.1.1⟩
  -- the stock first
  have hrr1 : RR (up A (S + 2) d (g (6 + d) - 1)) J (rc S r) len g r := RR.frame hrr hgr (fun b z hb => up_n _ _ _ _ _ _ (fun e => by have := (rc_in hr hb).1.2.2; omega)) (fun _ _ _ => rfl) (fun _ _ _ => rfl)
  have hl1 : up A (S + 2) d (g (6 + d) - 1) (Q + 2) d = len d := by rw [up_n _ _ _ _ _ _ (by omega)]; exact hl
  have hap := c_addPiece (c := c) hR hQ hrr1 hgr d hl1 hb hd hQR
  have hput := RR.put hrr1 hgr hr.1 d hb hd
  refine ⟨_, _, ?_, SR_upd h hg r hr hput ⟨?_, fun k a b => ?_⟩ (fun b z p q s _ => ?_) (fun b j s _ => ?_) (fun r2 w a b p d e => by rw [ec r2 w a ⟨d, e⟩, if_neg (by omega), if_neg (by omega)]), ?_⟩
  · simp (disch := first | assumption | omega) only [fX5_movePieceIn, rwI1, rwS1, rwI2, rwS2, rwI4, rwS4, rwI5, rwS5, rwI7, rwS7, rwI8, rwS8, rwI9, rwS9, rwR0, rwR3, rwR6, rwA1, rwU1, rwA3, rwU3, rwV, rwJ, rwUJ, plI0, plS0, plI1, plS1, plI2, plS2, plI3, plS3, plI4, plS4, plI5, plS5, plI6, plS6, plI7, plS7, plR8, plR9, plR10, plA1, plU1, plA2, plU2, plA3, plU3, plV, stI2, stS2, stI3, stS3, stI4, stS4, stI5, stS5, stI6, stS6, stI7, stS7, stR0, stR1, stA2, stU2, stV, stRow, svI5, svS5, svI6, svS6, svI7, svS7, svR0, svR1, svR2, svR3, svR4, svA13, svU13, svA14, svU14, svA15, svU15, svA16, svU16, svV, svRow, svF, svUF, hiI1, hiS1, hiI2, hiS2, hiR0, hiV, hiRow, rdI2, rdS2, rdI3, rdS3, rdI4, rdS4, rdI5, rdS5, rdI6, rdS6, rdI7, rdS7, rdI8, rdS8, rdR0, rdR1, rdA1, rdU1, rdA2, rdU2, rdV, k_C, il0, il1, il2, il3, il4, il5, il6, il7, il8, il9, il10, il11, il12, il15, il16, il20, il24, il31, il32, il44, il45, il48, il50, il57, il58, il59, il63, il91, il93, il97, il99, il100, il109, il113, il119, il120, il122, il200, il255, il480, il500, il501, il512, il999, il4112, il41120, il1000000, il1000003, ii_add, ii_sub, ii_mul, ii_neg, ii_le, ii_lt, ii_eq, ii_div, q_I, q_V, q_R, lt_q, rZ_q, md_M, md_16, md_4, md_8, md_10, if_true, if_false, if_pos, if_neg, e6, hap]
  · obtain ⟨a0, a1, a2, a3, a4, a5⟩ := h.1.1
    rw [el 0 (by omega), if_neg (by omega), el 1 (by omega), if_neg (by omega), el 2 (by omega), if_neg (by omega), el 3 (by omega), if_neg (by omega), el 4 (by omega), if_neg (by omega)]
    simp (disch := first | assumption | omega) only [up_s, up_n]
    exact ⟨a0, a1, a2, a3, a4, a5⟩
  · rw [el (6 + k) (by omega), up_n _ _ _ _ _ _ (by omega), up_n _ _ _ _ _ _ (by omega), up_n _ _ _ _ _ _ (by omega)]
    by_cases q : k = d
    · rw [if_pos (by omega), q, up_s]
    · rw [if_neg (by omega), up_n _ _ _ _ _ _ (by omega)]; exact h.1.2 k a b
  · rw [up_n _ _ _ _ _ _ (fun e => s (by rw [e.1]; exact i3)), up_n _ _ _ _ _ _ (fun e => s (by rw [e.1]; exact i0)), up_n _ _ _ _ _ _ (fun e => s (by rw [e.1]; exact i0)), up_n _ _ _ _ _ _ (by omega)]
  · unfold upJ
    rw [ax_up2_n _ _ (fun e => s (by rw [e.1]; exact i2))]
  · exact frm_upJ (frm_up (frm_up (frm_up (frm_up (frm.refl _ _ _) _ _ _ j2) _ _ _ (rc_in hr i0).1.1) _ _ _ (rc_in hr i0).1.1) _ _ _ (rc_in hr i3).1.1) _ _ _ (rc_in hr i2).1.1
theorem s_moveOut (hS : isState c S) (hQ : isPlan c Q) (ha : apQ Q S) (h : SR A J S len g f) (hg : GR g) (r i : Int) (hr : 0 ≤ r ∧ r < 8) (hi : 0 ≤ i ∧ i < cel g r 1) (hl : A (Q + 2) (cel g r (11 + i)) = len (cel g r (11 + i))) : ∃ A' J', fX5_movePieceOut S Q (rc S r) (ii i) (CW c A J) = some (Sum.inl (some (Value.int (ii (cel g r (11 + i))))), CW c A' J') ∧ SR A' J' S len (gTake g r i) f ∧ frm (inS S) A A' J J' := by
  have hR := hS.row r hr
  have hrr := h.2 r hr.1 hr.2
  have hgr := hg r hr.1 hr.2
  have hv := hgr.2.2.2.1 i hi.1 hi.2
  have e6 := h.1.2 _ hv.1 hv.2
  have j2 : inS S (S + 2) := by unfold inS; omega
  have hQR : ¬ inR (rc S r) (Q + 2) := fun z => by
    have := (rc_in hr z).1.1
    unfold inS at this
    omega
  have ec := fun (r2 w : Int) (a : 0 ≤ r2) (b : 0 ≤ w ∧ w < 512) => cel_gTake g r i r2 w ⟨⟨⟨⟨hr.1, a⟩, b⟩, hi, hgr.2.1.2⟩, hv⟩
  have el := fun (z : Int) (a : z < 16) => lo_gTake g r i z ⟨⟨hr.1, a⟩, hi.1⟩
  obtain ⟨A1, J1, e1, r1, f1⟩ := c_removePiece (c := c) hR hQ hrr hgr hr.1 i hi hl hQR
  have hn2 : ¬ inR (rc S r) (S + 2) := fun z => (rc_in hr z).1.2.2 rfl
  have hn0 : ¬ inR (rc S r) S := fun z => (rc_in hr z).1.2.1 rfl
  have e6' : A1 (S + 2) (cel g r (11 + i)) = g (6 + cel g r (11 + i)) := by rw [f1.1 _ _ hn2]; exact e6
  refine ⟨up A1 (S + 2) (cel g r (11 + i)) (g (6 + cel g r (11 + i)) + 1), J1, ?_, SR_upd h hg r hr (RR.frame r1 ?_ (fun b z hb => up_n _ _ _ _ _ _ (fun e => by have := (rc_in hr hb).1.2.2; omega)) (fun _ _ _ => rfl) (fun _ _ _ => rfl)) ⟨?_, fun k a b => ?_⟩ (fun b z p q s _ => ?_) (fun b j s _ => f1.2 b j s) (fun r2 w a b p d e => by rw [ec r2 w a ⟨d, e⟩, if_neg (by omega), if_neg (by omega)]), ?_⟩
  · simp (disch := first | assumption | omega) only [fX5_movePieceOut, rwI1, rwS1, rwI2, rwS2, rwI4, rwS4, rwI5, rwS5, rwI7, rwS7, rwI8, rwS8, rwI9, rwS9, rwR0, rwR3, rwR6, rwA1, rwU1, rwA3, rwU3, rwV, rwJ, rwUJ, plI0, plS0, plI1, plS1, plI2, plS2, plI3, plS3, plI4, plS4, plI5, plS5, plI6, plS6, plI7, plS7, plR8, plR9, plR10, plA1, plU1, plA2, plU2, plA3, plU3, plV, stI2, stS2, stI3, stS3, stI4, stS4, stI5, stS5, stI6, stS6, stI7, stS7, stR0, stR1, stA2, stU2, stV, stRow, svI5, svS5, svI6, svS6, svI7, svS7, svR0, svR1, svR2, svR3, svR4, svA13, svU13, svA14, svU14, svA15, svU15, svA16, svU16, svV, svRow, svF, svUF, hiI1, hiS1, hiI2, hiS2, hiR0, hiV, hiRow, rdI2, rdS2, rdI3, rdS3, rdI4, rdS4, rdI5, rdS5, rdI6, rdS6, rdI7, rdS7, rdI8, rdS8, rdR0, rdR1, rdA1, rdU1, rdA2, rdU2, rdV, k_C, il0, il1, il2, il3, il4, il5, il6, il7, il8, il9, il10, il11, il12, il15, il16, il20, il24, il31, il32, il44, il45, il48, il50, il57, il58, il59, il63, il91, il93, il97, il99, il100, il109, il113, il119, il120, il122, il200, il255, il480, il500, il501, il512, il999, il4112, il41120, il1000000, il1000003, ii_add, ii_sub, ii_mul, ii_neg, ii_le, ii_lt, ii_eq, ii_div, q_I, q_V, q_R, lt_q, rZ_q, md_M, md_16, md_4, md_8, md_10, if_true, if_false, if_pos, if_neg, e1, e6']
  · have h1 := hgr.1
    have h2 := hgr.2.1
    unfold RG
    rw [ec r 0 hr.1 (by omega), if_neg (by omega), if_neg (by omega), ec r 1 hr.1 (by omega), if_pos (by omega), ec r 2 hr.1 (by omega), if_neg (by omega), if_neg (by omega), ec r 3 hr.1 (by omega), if_neg (by omega), if_neg (by omega), ec r 4 hr.1 (by omega), if_neg (by omega), if_neg (by omega)]
    refine ⟨h1, by omega, fun k a b => ?_, fun k a b => ?_, hgr.2.2.2.2⟩
    · rw [ec r _ hr.1 (by omega), if_neg (by omega), if_neg (by omega)]; exact hgr.2.2.1 k a b
    · rw [ec r _ hr.1 (by omega), if_neg (by omega)]
      split
      · rw [show 11 + k + 1 = 11 + (k + 1) by omega]; exact hgr.2.2.2.1 (k + 1) (by omega) (by omega)
      · exact hgr.2.2.2.1 k a (by omega)
  · obtain ⟨a0, a1, a2, a3, a4, a5⟩ := h.1.1
    rw [el 0 (by omega), if_neg (by omega), el 1 (by omega), if_neg (by omega), el 2 (by omega), if_neg (by omega), el 3 (by omega), if_neg (by omega), el 4 (by omega), if_neg (by omega)]
    rw [up_n _ _ _ _ _ _ (by omega), up_n _ _ _ _ _ _ (by omega), up_n _ _ _ _ _ _ (by omega), up_n _ _ _ _ _ _ (by omega), up_n _ _ _ _ _ _ (by omega), up_n _ _ _ _ _ _ (by omega), f1.1 _ _ hn0, f1.1 _ _ hn0, f1.1 _ _ hn0, f1.1 _ _ hn0, f1.1 _ _ hn0, f1.1 _ _ hn0]
    exact ⟨a0, a1, a2, a3, a4, a5⟩
  · rw [el (6 + k) (by omega)]
    by_cases q : k = cel g r (11 + i)
    · rw [if_pos (by omega), q, up_s]
    · rw [if_neg (by omega), up_n _ _ _ _ _ _ (by omega), f1.1 _ _ hn2]; exact h.1.2 k a b
  · rw [up_n _ _ _ _ _ _ (by omega)]; exact f1.1 b z s
  · exact frm_up (f1.mono fun b hb => (rc_in hr hb).1.1) _ _ _ j2
end CST
