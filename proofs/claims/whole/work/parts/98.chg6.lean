/-! CHANGES: undo, save, restore; undoable -/
section CHG6
variable {C0 N0 n : Nat} {K : Nat × Nat} {c : CC} {A A' : AI} {J J' : JI} {M M' : AI} {g g' o : Int → Int} {pl sp tv cap : Nat} {f B : Int}
theorem Inv.one (h : Inv C0 N0 n pl sp tv cap c A J M g) : Inv C0 N0 (n + 1) pl sp tv cap c A J M g :=
  h.scr (Nat.le_succ n) ⟨rfl, rfl, rfl⟩ ⟨by have := h.2.1.2.1; omega, by have := h.2.1.2.2; omega⟩ (frm.refl _ _ _) ⟨fun _ _ _ => rfl, fun _ _ _ _ => rfl⟩
/-- the history is shorter -/
theorem Inv.hi (h : Inv C0 N0 n pl sp tv cap c A J M g) (hl : M 0 1 = 1) (hn : 0 ≤ A' 21 1 ∧ A' 21 1 < 8) (hm : A' 21 2 = M' 0 15 ∧ 0 ≤ M' 0 15 ∧ M' 0 15 ≤ M 0 15) (hx : ∀ i, 0 ≤ i → i < M' 0 15 → (A' 21 1 - M' 0 15 + i) % 8 = (A 21 1 - M 0 15 + i) % 8)
    (hf : frm (fun b => b = 21) A A' J J') (hM : (∀ z, z ≠ 15 → M' 0 z = M 0 z) ∧ ∀ (b : Nat) (z : Int), 0 < b → M' b z = M b z) : Inv C0 N0 n pl sp tv cap c A' J' M' g := by
  obtain ⟨h1, h2, h3, h4, ⟨r1, r2, r3, r4⟩, ⟨t1, t2, t3⟩, h7, h8, ⟨p1, p2, p3⟩, ⟨k1, k2, k3⟩⟩ := h
  obtain ⟨m2, m3⟩ := hM
  obtain ⟨l1, l2, l3, l4⟩ := h7 hl
  have hap := h1.2.2.2.1.1
  have htv := h1.2.2.2.2.1.2.2.2
  have e1 : M' 1 = M 1 := funext fun z => m3 1 z (by omega)
  have e2 : M' 2 = M 2 := funext fun z => m3 2 z (by omega)
  have e5 : ∀ i, pastg M' i = pastg M i := fun i => funext fun z => m3 5 _ (by omega)
  have e0 : ∀ z, 2 ≤ z → z ≤ 9 → M' 0 z = M 0 z := fun z a b => m2 z (by omega)
  have fA : ∀ (b : Nat) (z : Int), b ≠ 21 → A' b z = A b z := fun b z q => hf.1 b z q
  have fS : ∀ S : Nat, (22 ≤ S) → ∀ {g : Int → Int} {f : Int}, GR g → SR A J S (M 2) g f → SR A' J' S (M' 2) g f := fun S hS g f hg hs => by
    rw [e2]
    exact SR_frame hs hg (fun b z hb => fA b z (by unfold inS at hb; omega)) (fun b z hb => hf.2 b z (by unfold inS at hb; omega))
  have fG : ∀ {g : Int → Int} {B : Int}, GC M g B → GC M' g B := fun hg => hg.at e0 e2
  refine ⟨h1, h2, ?_, ?_, ⟨?_, fun k a b => ?_, ?_, ?_⟩, ⟨?_, ?_, fun k a b => ?_⟩, fun _ => ⟨l1.at e0 e1 e2, ?_, fS 303 (by omega) l4.1.1 l3, fG l4⟩, fun z => ?_, ⟨⟨hm.1, hm.2.1, ?_⟩, hn, fun i a b => ?_⟩, ⟨fun j a b => ?_, fun hl => ?_, fun hl => ?_⟩⟩
  · rw [fA 0 10 (by omega), m2 1 (by omega)]; exact h3
  · rw [m2 37 (by omega)]; exact h4
  · rw [fA 1 2 (by omega), m2 18 (by omega)]; exact r1
  · rw [m2 18 (by omega)] at b
    rw [fA 2 k (by omega), m3 7 k (by omega)]; exact r2 k a b
  · rw [fA 1 3 (by omega), m2 19 (by omega)]; exact r3
  · rw [fA 1 4 (by omega), m2 20 (by omega)]; exact r4
  · rw [fA 375 3 (by omega), fA 375 1 (by omega), m2 40 (by omega)]; exact t1
  · rw [m2 40 (by omega)]; exact t2
  · rw [fA tv k (by omega), m2 40 (by omega), m3 16 k (by omega)]; exact t3 k a b
  · exact (PR_frm l2 (fun b z hb => fA b z (by omega))).at e0 e1 e2
  · rw [m2 1 (by omega)] at z; omega
  · have := p1.2; omega
  · obtain ⟨q1, q2⟩ := p3 i a (by omega)
    rw [hx i a b, e5]
    exact ⟨fS _ (by unfold hs; omega) q2.1.1 q1, fG q2⟩
  · rw [fA 374 j (by omega), m3 6 j (by omega)]; exact k1 j a b
  · rw [m3 6 0 (by omega)] at hl
    rw [e5]
    exact ⟨fS 385 (by omega) (k2 hl).2.1.1 (k2 hl).1, fG (k2 hl).2⟩
  · rw [m3 6 1 (by omega)] at hl
    rw [e5]
    exact ⟨fS 420 (by omega) (k3 hl).2.1.1 (k3 hl).1, fG (k3 hl).2⟩
/-- the content is saved -/
theorem Inv.keep (h : Inv C0 N0 n pl sp tv cap c A J M g) (hl : M 0 1 = 1) (i : Int) (hi : 0 ≤ i ∧ i < 2) (hS : SR A' J' (385 + 35 * i.toNat) (M 2) g (g 5)) (hA : A' 374 i = 1) (hf : (∀ (b : Nat) (z : Int), b ≠ 374 → ¬ inS (385 + 35 * i.toNat) b → A' b z = A b z) ∧ (∀ z, z ≠ i → A' 374 z = A 374 z) ∧ ∀ (b j : Nat), ¬ inS (385 + 35 * i.toNat) b → J' b j = J b j)
    (hM : ((∀ z, M' 0 z = M 0 z) ∧ ∀ (b : Nat) (z : Int), 0 < b → b ≠ 5 → b ≠ 6 → M' b z = M b z) ∧ (M' 6 i = 1 ∧ ∀ z, z ≠ i → M' 6 z = M 6 z) ∧ (∀ z, 0 ≤ z → z < 4112 → pastg M' (8 + i) z = g z) ∧ ∀ z, (z < 4112 * (8 + i) ∨ 4112 * (8 + i) + 4112 ≤ z) → M' 5 z = M 5 z) : Inv C0 N0 n pl sp tv cap c A' J' M' g := by
  obtain ⟨h1, h2, h3, h4, ⟨r1, r2, r3, r4⟩, ⟨t1, t2, t3⟩, h7, h8, ⟨p1, p2, p3⟩, ⟨k1, k2, k3⟩⟩ := h
  obtain ⟨⟨m2, m3⟩, ⟨m4, m5⟩, m6, m7⟩ := hM
  obtain ⟨f1, f2, f3⟩ := hf
  obtain ⟨l1, l2, l3, l4⟩ := h7 hl
  have hap := h1.2.2.2.1.1
  have htv := h1.2.2.2.2.1.2.2.2
  have e1 : M' 1 = M 1 := funext fun z => m3 1 z (by omega) (by omega) (by omega)
  have e2 : M' 2 = M 2 := funext fun z => m3 2 z (by omega) (by omega) (by omega)
  have e0 : ∀ z, 2 ≤ z → z ≤ 9 → M' 0 z = M 0 z := fun z a b => m2 z
  have fA : ∀ (b : Nat) (z : Int), (b < 374 ∨ b = 375 ∨ 376 ≤ b ∧ b < 385 ∨ 455 ≤ b) → A' b z = A b z := fun b z q => f1 b z (by omega) (by unfold inS; omega)
  have fS : ∀ S : Nat, (S + 35 ≤ 374 ∨ S + 35 ≤ 385 + 35 * i.toNat ∧ 375 ≤ S ∨ 420 + 35 * i.toNat ≤ S) → ∀ {g : Int → Int} {f : Int}, GR g → SR A J S (M 2) g f → SR A' J' S (M' 2) g f := fun S hS g f hg hs => by
    rw [e2]
    exact SR_frame hs hg (fun b z hb => f1 b z (by unfold inS at hb; omega) (by unfold inS at hb ⊢; omega)) (fun b z hb => f3 b z (by unfold inS at hb ⊢; omega))
  have fG : ∀ {g : Int → Int} {B : Int}, GC M g B → GC M' g B := fun hg => hg.at e0 e2
  have l1' : SA M' := l1.at e0 e1 e2
  have fP : ∀ j : Int, 0 ≤ j → j ≠ 8 + i → ∀ z, 0 ≤ z → z < 4112 → pastg M' j z = pastg M j z := fun j hj hn z a b => m7 _ (by omega)
  refine ⟨h1, h2, ?_, ?_, ⟨?_, fun k a b => ?_, ?_, ?_⟩, ⟨?_, ?_, fun k a b => ?_⟩, fun _ => ⟨l1', ?_, fS 303 (by omega) l4.1.1 l3, fG l4⟩, fun z => ?_, ⟨?_, ?_, fun j a b => ?_⟩, ⟨fun j a b => ?_, fun hl => ?_, fun hl => ?_⟩⟩
  · rw [fA 0 10 (by omega), m2 1]; exact h3
  · rw [m2 37]; exact h4
  · rw [fA 1 2 (by omega), m2 18]; exact r1
  · rw [m2 18] at b
    rw [fA 2 k (by omega), m3 7 k (by omega) (by omega) (by omega)]; exact r2 k a b
  · rw [fA 1 3 (by omega), m2 19]; exact r3
  · rw [fA 1 4 (by omega), m2 20]; exact r4
  · rw [fA 375 3 (by omega), fA 375 1 (by omega), m2 40]; exact t1
  · rw [m2 40]; exact t2
  · rw [fA tv k (by omega), m2 40, m3 16 k (by omega) (by omega) (by omega)]; exact t3 k a b
  · exact (PR_frm l2 (fun b z hb => fA b z (by omega))).at e0 e1 e2
  · rw [m2 1] at z; omega
  · rw [fA 21 2 (by omega), m2 15]; exact p1
  · rw [fA 21 1 (by omega)]; exact p2
  · rw [m2 15] at b
    obtain ⟨q1, q2⟩ := p3 j a b
    rw [fA 21 1 (by omega), m2 15]
    have hj := fP j a (by omega)
    exact ⟨SR_cg (fS _ (by unfold hs; omega) q2.1.1 q1) q2.1.1 hj, GC_cg (fG q2) l1' hj⟩
  · by_cases y : j = i
    · rw [y, hA, m4]; exact ⟨rfl, by omega, by omega⟩
    · rw [f2 j y, m5 j y]; exact k1 j a b
  · by_cases y : i = 0
    · subst y
      refine ⟨?_, GC_cg (fG l4) l1' m6⟩
      rw [e2]
      exact SR_cg hS l4.1.1 m6
    · rw [m5 0 (by omega)] at hl
      obtain ⟨q1, q2⟩ := k2 hl
      have hj := fP 8 (by omega) (by omega)
      exact ⟨SR_cg (fS 385 (by omega) q2.1.1 q1) q2.1.1 hj, GC_cg (fG q2) l1' hj⟩
  · by_cases y : i = 1
    · subst y
      refine ⟨?_, GC_cg (fG l4) l1' m6⟩
      rw [e2]
      exact SR_cg hS l4.1.1 m6
    · rw [m5 1 (by omega)] at hl
      obtain ⟨q1, q2⟩ := k3 hl
      have hj := fP 9 (by omega) (by omega)
      exact ⟨SR_cg (fS 420 (by omega) q2.1.1 q1) q2.1.1 hj, GC_cg (fG q2) l1' hj⟩
/-- a call that answers without a handler -/
def Good1 (C0 N0 n : Nat) (K : Nat × Nat) (xc xm : Option AR) : Prop :=
  ∃ (v : Int) (pl sp tv cap : Nat) (c : CC) (A : AI) (J : JI) (M : AI) (g : Int → Int), xc = some (Sum.inl (some (Value.int (ii (v)))), CW c A J) ∧ xm = some (Sum.inl (some (Value.int (ii (v)))), NW K (mg M g)) ∧ Inv C0 N0 (n + 1) pl sp tv cap c A J M g
theorem g_undoable (hI : Inv C0 N0 n pl sp tv cap c A J M g) : Good1 C0 N0 n K (fX6_undoable 0 (CW c A J)) (fX7_undoable 0 (NW K (mg M g))) := by
  have hk := hI.1
  have hRd : isReader c 1 := hk.2.1.1
  have hSv : isSolver c 4 := hk.2.1.2.1
  have hHi : isHist c 21 := hk.2.1.2.2.1
  have hNow : isState c 303 := hk.2.1.2.2.2.1
  have hSpr : isState c 338 := hk.2.1.2.2.2.2.1
  have hPl : isPlan c pl := hk.2.2.2.1.2.1
  have h00 : up M 0 0 0 0 0 = 0 := up_s _ _ _ _
  have hh := hI.2.2.2.2.2.2.2.2.1.1.1
  have e15 : up M 0 0 0 0 15 = M 0 15 := up_n _ _ _ _ _ _ (by omega)
  refine ⟨M 0 15, pl, sp, tv, cap, c, A, J, up M 0 0 0, g, ?_, ?_, (hI.thr 0).one⟩
  · simp (disch := first | assumption | omega) only [fX6_undoable, lkV hk, lkR0 hk, lkR1 hk, lkR2 hk, lkR3 hk, lkR4 hk, lkR5 hk, lkR6 hk, lkR7 hk, lkR8 hk, lkR9 hk, lkI hk, k_E, t_E, rwI1, rwS1, rwI2, rwS2, rwI4, rwS4, rwI5, rwS5, rwI7, rwS7, rwI8, rwS8, rwI9, rwS9, rwR0, rwR3, rwR6, rwA1, rwU1, rwA3, rwU3, rwV, rwJ, rwUJ, plI0, plS0, plI1, plS1, plI2, plS2, plI3, plS3, plI4, plS4, plI5, plS5, plI6, plS6, plI7, plS7, plR8, plR9, plR10, plA1, plU1, plA2, plU2, plA3, plU3, plV, stI2, stS2, stI3, stS3, stI4, stS4, stI5, stS5, stI6, stS6, stI7, stS7, stR0, stR1, stA2, stU2, stV, stRow, svI5, svS5, svI6, svS6, svI7, svS7, svR0, svR1, svR2, svR3, svR4, svA13, svU13, svA14, svU14, svA15, svU15, svA16, svU16, svV, svRow, svF, svUF, hiI1, hiS1, hiI2, hiS2, hiR0, hiV, hiRow, rdI2, rdS2, rdI3, rdS3, rdI4, rdS4, rdI5, rdS5, rdI6, rdS6, rdI7, rdS7, rdI8, rdS8, rdR0, rdR1, rdA1, rdU1, rdA2, rdU2, rdV, k_C, ↓reduceIte, tr_lt, fa_lt, tr_le, fa_le, tr_eq, fa_eq, and_true, true_and, and_false, false_and, il0, il1, il2, il3, il4, il5, il6, il7, il8, il9, il10, il11, il12, il15, il16, il20, il24, il31, il32, il44, il45, il48, il50, il57, il58, il59, il63, il91, il93, il97, il99, il100, il109, il113, il119, il120, il122, il200, il255, il480, il500, il501, il512, il999, il4112, il41120, il1000000, il1000003, ii_add, ii_sub, ii_mul, ii_neg, ii_le, ii_lt, ii_eq, ii_div, q_I, q_V, q_R, lt_q, rZ_q, md_M, md_16, md_4, md_8, md_10, if_true, if_false, if_pos, if_neg, hh]
  · simp (disch := first | assumption | omega) only [fX7_undoable, nR1, nA1, nU1, nR2, nA2, nU2, nR3, nA3, nU3, nR4, nA4, nU4, nR5, nA5, nU5, nR6, nA6, nU6, nR7, nA7, nU7, nR8, nA8, nU8, nR9, nA9, nU9, nR10, nA10, nU10, nR11, nA11, nU11, nR12, nA12, nU12, nR13, nA13, nU13, nR14, nA14, nU14, nR15, nA15, nU15, nR16, nA16, nU16, nI0, nS0, nI1, nS1, nI2, nS2, nI3, nS3, nI4, nS4, nI5, nS5, nI6, nS6, nI7, nS7, nI8, nS8, nI9, nS9, nI15, nS15, nI18, nS18, nI19, nS19, nI20, nS20, nI21, nS21, nI22, nS22, nI23, nS23, nI24, nS24, nI25, nS25, nI26, nS26, nI27, nS27, nI32, nS32, nI36, nS36, nI37, nS37, nI40, nS40, nSZ1, nV, nC, ↓reduceIte, tr_lt, fa_lt, tr_le, fa_le, tr_eq, fa_eq, and_true, true_and, and_false, false_and, il0, il1, il2, il3, il4, il5, il6, il7, il8, il9, il10, il11, il12, il15, il16, il20, il24, il31, il32, il44, il45, il48, il50, il57, il58, il59, il63, il91, il93, il97, il99, il100, il109, il113, il119, il120, il122, il200, il255, il480, il500, il501, il512, il999, il4112, il41120, il1000000, il1000003, ii_add, ii_sub, ii_mul, ii_neg, ii_le, ii_lt, ii_eq, ii_div, q_I, q_V, q_R, lt_q, rZ_q, md_M, md_16, md_4, md_8, md_10, if_true, if_false, if_pos, if_neg, mg_3, mg_0, mg_1, mg_2, mg_k, mg_up3, mg_upk, e15]
theorem g_undo (hI : Inv C0 N0 n pl sp tv cap c A J M g) : Good C0 N0 n K (fL_undo 0 455 (CW c A J)) (fX7_undo 0 (NW K (mg M g))) := by
  have hk := hI.1
  have hRd : isReader c 1 := hk.2.1.1
  have hSv : isSolver c 4 := hk.2.1.2.1
  have hHi : isHist c 21 := hk.2.1.2.2.1
  have hNow : isState c 303 := hk.2.1.2.2.2.1
  have hSpr : isState c 338 := hk.2.1.2.2.2.2.1
  have hPl : isPlan c pl := hk.2.2.2.1.2.1
  have h00 : up M 0 0 0 0 0 = 0 := up_s _ _ _ _
  have e15 : up M 0 0 0 0 15 = M 0 15 := up_n _ _ _ _ _ _ (by omega)
  have hld := hI.2.2.1
  have hnl := hI.2.2.2.2.2.2.2.1
  have hh0 : HI c A J M (Bn n) := hI.2.2.2.2.2.2.2.2.1
  have hrf := e_ref1 (K := K) (M := up M 0 0 0) (g := g) h00 1 (by omega)
  by_cases m0 : M 0 15 = 0
  · have t1 := hh0.1.1
    refine Good_no (code := 1) hI (E := "java/lang/IllegalStateException") (A' := A) (J' := J) ?_ (frm.refl _ _ _) (hF_IS _ 1 rfl _ _) (by omega) (v := 0) ?_
    · simp (disch := first | assumption | omega) only [fX6_undo, lkV hk, lkR0 hk, lkR1 hk, lkR2 hk, lkR3 hk, lkR4 hk, lkR5 hk, lkR6 hk, lkR7 hk, lkR8 hk, lkR9 hk, lkI hk, k_E, t_E, rwI1, rwS1, rwI2, rwS2, rwI4, rwS4, rwI5, rwS5, rwI7, rwS7, rwI8, rwS8, rwI9, rwS9, rwR0, rwR3, rwR6, rwA1, rwU1, rwA3, rwU3, rwV, rwJ, rwUJ, plI0, plS0, plI1, plS1, plI2, plS2, plI3, plS3, plI4, plS4, plI5, plS5, plI6, plS6, plI7, plS7, plR8, plR9, plR10, plA1, plU1, plA2, plU2, plA3, plU3, plV, stI2, stS2, stI3, stS3, stI4, stS4, stI5, stS5, stI6, stS6, stI7, stS7, stR0, stR1, stA2, stU2, stV, stRow, svI5, svS5, svI6, svS6, svI7, svS7, svR0, svR1, svR2, svR3, svR4, svA13, svU13, svA14, svU14, svA15, svU15, svA16, svU16, svV, svRow, svF, svUF, hiI1, hiS1, hiI2, hiS2, hiR0, hiV, hiRow, rdI2, rdS2, rdI3, rdS3, rdI4, rdS4, rdI5, rdS5, rdI6, rdS6, rdI7, rdS7, rdI8, rdS8, rdR0, rdR1, rdA1, rdU1, rdA2, rdU2, rdV, k_C, ↓reduceIte, tr_lt, fa_lt, tr_le, fa_le, tr_eq, fa_eq, and_true, true_and, and_false, false_and, il0, il1, il2, il3, il4, il5, il6, il7, il8, il9, il10, il11, il12, il15, il16, il20, il24, il31, il32, il44, il45, il48, il50, il57, il58, il59, il63, il91, il93, il97, il99, il100, il109, il113, il119, il120, il122, il200, il255, il480, il500, il501, il512, il999, il4112, il41120, il1000000, il1000003, ii_add, ii_sub, ii_mul, ii_neg, ii_le, ii_lt, ii_eq, ii_div, q_I, q_V, q_R, lt_q, rZ_q, md_M, md_16, md_4, md_8, md_10, if_true, if_false, if_pos, if_neg, t1, m0, t_E]
    · simp (disch := first | assumption | omega) only [fX7_undo, nR1, nA1, nU1, nR2, nA2, nU2, nR3, nA3, nU3, nR4, nA4, nU4, nR5, nA5, nU5, nR6, nA6, nU6, nR7, nA7, nU7, nR8, nA8, nU8, nR9, nA9, nU9, nR10, nA10, nU10, nR11, nA11, nU11, nR12, nA12, nU12, nR13, nA13, nU13, nR14, nA14, nU14, nR15, nA15, nU15, nR16, nA16, nU16, nI0, nS0, nI1, nS1, nI2, nS2, nI3, nS3, nI4, nS4, nI5, nS5, nI6, nS6, nI7, nS7, nI8, nS8, nI9, nS9, nI15, nS15, nI18, nS18, nI19, nS19, nI20, nS20, nI21, nS21, nI22, nS22, nI23, nS23, nI24, nS24, nI25, nS25, nI26, nS26, nI27, nS27, nI32, nS32, nI36, nS36, nI37, nS37, nI40, nS40, nSZ1, nV, nC, ↓reduceIte, tr_lt, fa_lt, tr_le, fa_le, tr_eq, fa_eq, and_true, true_and, and_false, false_and, il0, il1, il2, il3, il4, il5, il6, il7, il8, il9, il10, il11, il12, il15, il16, il20, il24, il31, il32, il44, il45, il48, il50, il57, il58, il59, il63, il91, il93, il97, il99, il100, il109, il113, il119, il120, il122, il200, il255, il480, il500, il501, il512, il999, il4112, il41120, il1000000, il1000003, ii_add, ii_sub, ii_mul, ii_neg, ii_le, ii_lt, ii_eq, ii_div, q_I, q_V, q_R, lt_q, rZ_q, md_M, md_16, md_4, md_8, md_10, if_true, if_false, if_pos, if_neg, mg_3, mg_0, mg_1, mg_2, mg_k, mg_up3, mg_upk, e15, m0]
      rw [fX7_undo_18, nV, il1, hrf, nC, q_I, if_neg (show ¬ ii 1 = (0 : Int32) by decide), up_up]
      rfl
  · have hl : M 0 1 = 1 := by
      by_cases y : M 0 1 = 0
      · exact absurd (hnl y).1 m0
      · omega
    obtain ⟨h10, hM, hP, hS, hG⟩ := hI.ld hl
    obtain ⟨p0, p1, p2, p3, p4, p5, p6, p7⟩ := hP.1
    have hc1 := c_chase1 (A := A) (J := J) hk h10
    have e3 : up M 0 0 0 0 3 = M 0 3 := up_n _ _ _ _ _ _ (by omega)
    have e9 : up M 0 0 0 0 9 = M 0 9 := up_n _ _ _ _ _ _ (by omega)
    have h38 := hM.1.2.1
    have h910 := hM.1.2.2.2.2.2.2.2
    have hI0 := hI.thr 0
    have hl0 : up M 0 0 0 0 1 = 1 := (up_n _ _ _ _ _ _ (by omega)).trans hl
    have hh1 : HI c A J (up M 0 0 0) (Bn n) := hI0.2.2.2.2.2.2.2.2.1
    obtain ⟨⟨t1, t2, t3⟩, t4, t5⟩ := hh1
    obtain ⟨q1, q2⟩ := t5 (up M 0 0 0 0 15 - 1) (by omega) (by omega)
    have ex : (A 21 1 - up M 0 0 0 0 15 + (up M 0 0 0 0 15 - 1)) % 8 = (A 21 1 + 8 - 1) % 8 := by omega
    rw [ex] at q1
    obtain ⟨A2, J2, e2, s2, ⟨a1, a2⟩, f2⟩ := h_bringBack (c := c) hHi hNow t4 (by omega) q1 q2.1.1
    obtain ⟨h, b1, b2⟩ := e_fetches (K := K) (M := up (up M 0 0 0) 0 15 (up M 0 0 0 0 15 - 1)) (g := g) (up M 0 0 0 0 15 - 1) (by omega)
    have hc : ∀ z, 0 ≤ z → z < 4112 → h z = pastg (up M 0 0 0) (up M 0 0 0 0 15 - 1) z := fun z a b => (b2 z a b).trans (up_n _ _ _ _ _ _ (by omega))
    have eM : up (up M 0 0 0) 0 15 (up M 0 0 0 0 15 - 1) 0 15 = up M 0 0 0 0 15 - 1 := up_s _ _ _ _
    have eM2 : up (up M 0 0 0) 0 15 (up M 0 0 0 0 15 - 1) 2 = up M 0 0 0 2 := funext fun z => up_n _ _ _ _ _ _ (by omega)
    have hI3 : Inv C0 N0 n pl sp tv cap c (fun b z => if b = 21 then A2 21 z else A b z) (fun b j => if b = 21 then J2 21 j else J b j) (up (up M 0 0 0) 0 15 (up M 0 0 0 0 15 - 1)) g := by
      refine hI0.hi hl0 ?_ ⟨?_, ?_, ?_⟩ (fun i p q => ?_) ⟨fun b z q => if_neg q, fun b z q => if_neg q⟩ ⟨fun z q => up_n _ _ _ _ _ _ (fun x => q x.2), fun b z q => up_n _ _ _ _ _ _ (by omega)⟩
      · show 0 ≤ A2 21 1 ∧ A2 21 1 < 8
        omega
      · show A2 21 2 = _
        rw [eM, a2, t1]
      · rw [eM]; omega
      · rw [eM]; omega
      · show (A2 21 1 - _ + i) % 8 = _
        rw [eM, a1]
        omega
    refine Good_chg hI (v := up M 0 0 0 0 15 - 1) (A' := A2) (J' := J2) (M' := up (up M 0 0 0) 0 15 (up M 0 0 0 0 15 - 1)) (g' := h) ?_ ?_ ?_ (hI3.chg ?_ ⟨fun b z q => ?_, fun b z q => ?_⟩ (scr.refl _).s4 ?_ ?_)
    · simp (disch := first | assumption | omega) only [fX6_undo, lkV hk, lkR0 hk, lkR1 hk, lkR2 hk, lkR3 hk, lkR4 hk, lkR5 hk, lkR6 hk, lkR7 hk, lkR8 hk, lkR9 hk, lkI hk, k_E, t_E, rwI1, rwS1, rwI2, rwS2, rwI4, rwS4, rwI5, rwS5, rwI7, rwS7, rwI8, rwS8, rwI9, rwS9, rwR0, rwR3, rwR6, rwA1, rwU1, rwA3, rwU3, rwV, rwJ, rwUJ, plI0, plS0, plI1, plS1, plI2, plS2, plI3, plS3, plI4, plS4, plI5, plS5, plI6, plS6, plI7, plS7, plR8, plR9, plR10, plA1, plU1, plA2, plU2, plA3, plU3, plV, stI2, stS2, stI3, stS3, stI4, stS4, stI5, stS5, stI6, stS6, stI7, stS7, stR0, stR1, stA2, stU2, stV, stRow, svI5, svS5, svI6, svS6, svI7, svS7, svR0, svR1, svR2, svR3, svR4, svA13, svU13, svA14, svU14, svA15, svU15, svA16, svU16, svV, svRow, svF, svUF, hiI1, hiS1, hiI2, hiS2, hiR0, hiV, hiRow, rdI2, rdS2, rdI3, rdS3, rdI4, rdS4, rdI5, rdS5, rdI6, rdS6, rdI7, rdS7, rdI8, rdS8, rdR0, rdR1, rdA1, rdU1, rdA2, rdU2, rdV, k_C, ↓reduceIte, tr_lt, fa_lt, tr_le, fa_le, tr_eq, fa_eq, and_true, true_and, and_false, false_and, il0, il1, il2, il3, il4, il5, il6, il7, il8, il9, il10, il11, il12, il15, il16, il20, il24, il31, il32, il44, il45, il48, il50, il57, il58, il59, il63, il91, il93, il97, il99, il100, il109, il113, il119, il120, il122, il200, il255, il480, il500, il501, il512, il999, il4112, il41120, il1000000, il1000003, ii_add, ii_sub, ii_mul, ii_neg, ii_le, ii_lt, ii_eq, ii_div, q_I, q_V, q_R, lt_q, rZ_q, md_M, md_16, md_4, md_8, md_10, if_true, if_false, if_pos, if_neg, e2, a2, t1]
    · simp (disch := first | assumption | omega) only [fX7_undo, fX7_undo_18, nR1, nA1, nU1, nR2, nA2, nU2, nR3, nA3, nU3, nR4, nA4, nU4, nR5, nA5, nU5, nR6, nA6, nU6, nR7, nA7, nU7, nR8, nA8, nU8, nR9, nA9, nU9, nR10, nA10, nU10, nR11, nA11, nU11, nR12, nA12, nU12, nR13, nA13, nU13, nR14, nA14, nU14, nR15, nA15, nU15, nR16, nA16, nU16, nI0, nS0, nI1, nS1, nI2, nS2, nI3, nS3, nI4, nS4, nI5, nS5, nI6, nS6, nI7, nS7, nI8, nS8, nI9, nS9, nI15, nS15, nI18, nS18, nI19, nS19, nI20, nS20, nI21, nS21, nI22, nS22, nI23, nS23, nI24, nS24, nI25, nS25, nI26, nS26, nI27, nS27, nI32, nS32, nI36, nS36, nI37, nS37, nI40, nS40, nSZ1, nV, nC, ↓reduceIte, tr_lt, fa_lt, tr_le, fa_le, tr_eq, fa_eq, and_true, true_and, and_false, false_and, il0, il1, il2, il3, il4, il5, il6, il7, il8, il9, il10, il11, il12, il15, il16, il20, il24, il31, il32, il44, il45, il48, il50, il57, il58, il59, il63, il91, il93, il97, il99, il100, il109, il113, il119, il120, il122, il200, il255, il480, il500, il501, il512, il999, il4112, il41120, il1000000, il1000003, ii_add, ii_sub, ii_mul, ii_neg, ii_le, ii_lt, ii_eq, ii_div, q_I, q_V, q_R, lt_q, rZ_q, md_M, md_16, md_4, md_8, md_10, if_true, if_false, if_pos, if_neg, mg_3, mg_0, mg_1, mg_2, mg_k, mg_up3, mg_upk, e_ref0, Int.zero_add, eM, b1]
    · rw [up_n _ _ _ _ _ _ (by omega)]; exact h00
    · rw [up_n _ _ _ _ _ _ (by omega)]; exact hl0
    · by_cases y : b = 21
      · rw [y]; rfl
      · dsimp only
        rw [if_neg y]
        exact f2.1 b z (fun x => x.elim y (fun x => q (Or.inl x)))
    · by_cases y : b = 21
      · rw [y]; rfl
      · dsimp only
        rw [if_neg y]
        exact f2.2 b z (fun x => x.elim y (fun x => q (Or.inl x)))
    · rw [eM2]
      exact SR_cg s2 q2.1.1 hc
    · exact ((GC_cg q2 hM hc).at (fun z p q => up_n _ _ _ _ _ _ (by omega)) eM2).mono (Bn_s n)
theorem g_save (hI : Inv C0 N0 n pl sp tv cap c A J M g) (i : Int) (hib : -2147483648 ≤ i ∧ i < 2147483648) : Good C0 N0 n K (fL_save 0 (ii i) 455 (CW c A J)) (fX7_save 0 (ii i) (NW K (mg M g))) := by
  have hk := hI.1
  have hRd : isReader c 1 := hk.2.1.1
  have hSv : isSolver c 4 := hk.2.1.2.1
  have hHi : isHist c 21 := hk.2.1.2.2.1
  have hNow : isState c 303 := hk.2.1.2.2.2.1
  have hSpr : isState c 338 := hk.2.1.2.2.2.2.1
  have hPl : isPlan c pl := hk.2.2.2.1.2.1
  have h00 : up M 0 0 0 0 0 = 0 := up_s _ _ _ _
  by_cases hl : M 0 1 = 1
  · obtain ⟨h10, hM, hP, hS, hG⟩ := hI.ld hl
    obtain ⟨p0, p1, p2, p3, p4, p5, p6, p7⟩ := hP.1
    have hc1 := c_chase1 (A := A) (J := J) hk h10
    have e3 : up M 0 0 0 0 3 = M 0 3 := up_n _ _ _ _ _ _ (by omega)
    have e9 : up M 0 0 0 0 9 = M 0 9 := up_n _ _ _ _ _ _ (by omega)
    have h38 := hM.1.2.1
    have h910 := hM.1.2.2.2.2.2.2.2
    have hnl := e_notL1 (K := K) (g := g) hl
    have hin := e_in i 0 1 (by omega) (NW K (mg (up M 0 0 0) g))
    by_cases q : 0 ≤ i ∧ i < 2
    · rw [if_pos (by omega)] at hin
      have hI0 := hI.thr 0
      have hl0 : up M 0 0 0 0 1 = 1 := (up_n _ _ _ _ _ _ (by omega)).trans hl
      have hsv : isState c (385 + 35 * i.toNat) := by
        rcases (show i = 0 ∨ i = 1 by omega) with rfl | rfl
        · exact hk.2.1.2.2.2.2.2.1
        · exact hk.2.1.2.2.2.2.2.2
      have hpt : ptr c 373 i.toNat (385 + 35 * i.toNat) := by
        rcases (show i = 0 ∨ i = 1 by omega) with rfl | rfl
        · exact hk.2.2.1.2.1
        · exact hk.2.2.1.2.2.1
      have haR := fun k => k_aR (c := c) (A := A) (J := J) _ hk.2.2.1.1 i (by omega) hpt k
      obtain ⟨A1, J1, e1, s1, f1⟩ := s_copy (c := c) hsv hNow (by omega) hS hG.1.1
      have haU := fun k => k_uZ (c := c) (A := A1) (J := J1) hk.2.2.1.2.2.2 i 1 (by omega) (by omega) k
      have x3 : up A1 374 i 1 303 3 = g 1 := by
        rw [up_n _ _ _ _ _ _ (by omega), f1.1 _ _ (by unfold inS; omega)]
        exact hS.1.1.2.1
      have hix := c_index1 i 2 q (by omega) (CW c A J)
      obtain ⟨Y, k1, k2, k3⟩ := e_keeps (K := K) (M := up M 0 0 0) (g := g) (8 + i) (by omega)
      refine Good_chg hI (v := g 1) (A' := up A1 374 i 1) (J' := J1) (M' := up (cB 5 (up M 0 0 0) Y) 6 i 1) (g' := g) ?_ ?_ ?_ (Inv.one (hI0.keep hl0 i q (SR_frame s1 hG.1.1 (fun b z hb => up_n _ _ _ _ _ _ (fun e => by unfold inS at hb; omega)) (fun _ _ _ => rfl)) (up_s _ _ _ _) ⟨fun b z p w => ?_, fun z p => ?_, fun b j w => f1.2 b j w⟩ ⟨⟨fun z => ?_, fun b z p w v => ?_⟩, ⟨up_s _ _ _ _, fun z p => ?_⟩, fun z a b => ?_, fun z a => ?_⟩))
      · simp (disch := first | assumption | omega) only [fX6_save, lkV hk, lkR0 hk, lkR1 hk, lkR2 hk, lkR3 hk, lkR4 hk, lkR5 hk, lkR6 hk, lkR7 hk, lkR8 hk, lkR9 hk, lkI hk, k_E, t_E, hc1, hix, haR, rwI1, rwS1, rwI2, rwS2, rwI4, rwS4, rwI5, rwS5, rwI7, rwS7, rwI8, rwS8, rwI9, rwS9, rwR0, rwR3, rwR6, rwA1, rwU1, rwA3, rwU3, rwV, rwJ, rwUJ, plI0, plS0, plI1, plS1, plI2, plS2, plI3, plS3, plI4, plS4, plI5, plS5, plI6, plS6, plI7, plS7, plR8, plR9, plR10, plA1, plU1, plA2, plU2, plA3, plU3, plV, stI2, stS2, stI3, stS3, stI4, stS4, stI5, stS5, stI6, stS6, stI7, stS7, stR0, stR1, stA2, stU2, stV, stRow, svI5, svS5, svI6, svS6, svI7, svS7, svR0, svR1, svR2, svR3, svR4, svA13, svU13, svA14, svU14, svA15, svU15, svA16, svU16, svV, svRow, svF, svUF, hiI1, hiS1, hiI2, hiS2, hiR0, hiV, hiRow, rdI2, rdS2, rdI3, rdS3, rdI4, rdS4, rdI5, rdS5, rdI6, rdS6, rdI7, rdS7, rdI8, rdS8, rdR0, rdR1, rdA1, rdU1, rdA2, rdU2, rdV, k_C, ↓reduceIte, tr_lt, fa_lt, tr_le, fa_le, tr_eq, fa_eq, and_true, true_and, and_false, false_and, il0, il1, il2, il3, il4, il5, il6, il7, il8, il9, il10, il11, il12, il15, il16, il20, il24, il31, il32, il44, il45, il48, il50, il57, il58, il59, il63, il91, il93, il97, il99, il100, il109, il113, il119, il120, il122, il200, il255, il480, il500, il501, il512, il999, il4112, il41120, il1000000, il1000003, ii_add, ii_sub, ii_mul, ii_neg, ii_le, ii_lt, ii_eq, ii_div, q_I, q_V, q_R, lt_q, rZ_q, md_M, md_16, md_4, md_8, md_10, if_true, if_false, if_pos, if_neg, e1, haU, x3]
      · simp (disch := first | assumption | omega) only [fX7_save, fX7_save_22, nR1, nA1, nU1, nR2, nA2, nU2, nR3, nA3, nU3, nR4, nA4, nU4, nR5, nA5, nU5, nR6, nA6, nU6, nR7, nA7, nU7, nR8, nA8, nU8, nR9, nA9, nU9, nR10, nA10, nU10, nR11, nA11, nU11, nR12, nA12, nU12, nR13, nA13, nU13, nR14, nA14, nU14, nR15, nA15, nU15, nR16, nA16, nU16, nI0, nS0, nI1, nS1, nI2, nS2, nI3, nS3, nI4, nS4, nI5, nS5, nI6, nS6, nI7, nS7, nI8, nS8, nI9, nS9, nI15, nS15, nI18, nS18, nI19, nS19, nI20, nS20, nI21, nS21, nI22, nS22, nI23, nS23, nI24, nS24, nI25, nS25, nI26, nS26, nI27, nS27, nI32, nS32, nI36, nS36, nI37, nS37, nI40, nS40, nSZ1, nV, nC, ↓reduceIte, tr_lt, fa_lt, tr_le, fa_le, tr_eq, fa_eq, and_true, true_and, and_false, false_and, il0, il1, il2, il3, il4, il5, il6, il7, il8, il9, il10, il11, il12, il15, il16, il20, il24, il31, il32, il44, il45, il48, il50, il57, il58, il59, il63, il91, il93, il97, il99, il100, il109, il113, il119, il120, il122, il200, il255, il480, il500, il501, il512, il999, il4112, il41120, il1000000, il1000003, ii_add, ii_sub, ii_mul, ii_neg, ii_le, ii_lt, ii_eq, ii_div, q_I, q_V, q_R, lt_q, rZ_q, md_M, md_16, md_4, md_8, md_10, if_true, if_false, if_pos, if_neg, mg_3, mg_0, mg_1, mg_2, mg_k, mg_up3, mg_upk, hnl, hin, e_ref0, k1]
      · rw [up_n _ _ _ _ _ _ (by omega), cB_n _ _ _ _ _ (by omega)]; exact h00
      · rw [up_n _ _ _ _ _ _ (fun e => p e.1)]; exact f1.1 b z w
      · rw [up_n _ _ _ _ _ _ (fun e => p e.2)]; exact f1.1 374 z (by unfold inS; omega)
      · rw [up_n _ _ _ _ _ _ (by omega), cB_n _ _ _ _ _ (by omega)]
      · rw [up_n _ _ _ _ _ _ (fun e => v e.1), cB_n _ _ _ _ _ w]
      · rw [up_n _ _ _ _ _ _ (fun e => p e.2), cB_n _ _ _ _ _ (by omega)]
      · show up (cB 5 (up M 0 0 0) Y) 6 i 1 5 (4112 * (8 + i) + z) = g z
        rw [up_n _ _ _ _ _ _ (by omega), cB_k]
        exact k2 z a b
      · rw [up_n _ _ _ _ _ _ (by omega), cB_k]
        exact k3 z a
    · rw [if_neg (by omega)] at hin
      have hci := c_index0 (c := c) (A := A) (J := J) i 2 q (by omega) hib
      have hrf := e_ref1 (K := K) (M := up M 0 0 0) (g := g) h00 2 (by omega)
      refine Good_no (code := 2) hI (E := "java/lang/IndexOutOfBoundsException") (A' := A) (J' := J) ?_ (frm.refl _ _ _) (fun τ => (hF2 _ _ _ _ _ _ (by decide)).trans (hF1 _ _ 2 rfl _ _ _)) (by omega) (v := 0) ?_
      · rw [fX6_save, lkV hk, hc1, k_C, q_V, il2, hci, k_E]
      · simp (disch := first | assumption | omega) only [fX7_save, nR1, nA1, nU1, nR2, nA2, nU2, nR3, nA3, nU3, nR4, nA4, nU4, nR5, nA5, nU5, nR6, nA6, nU6, nR7, nA7, nU7, nR8, nA8, nU8, nR9, nA9, nU9, nR10, nA10, nU10, nR11, nA11, nU11, nR12, nA12, nU12, nR13, nA13, nU13, nR14, nA14, nU14, nR15, nA15, nU15, nR16, nA16, nU16, nI0, nS0, nI1, nS1, nI2, nS2, nI3, nS3, nI4, nS4, nI5, nS5, nI6, nS6, nI7, nS7, nI8, nS8, nI9, nS9, nI15, nS15, nI18, nS18, nI19, nS19, nI20, nS20, nI21, nS21, nI22, nS22, nI23, nS23, nI24, nS24, nI25, nS25, nI26, nS26, nI27, nS27, nI32, nS32, nI36, nS36, nI37, nS37, nI40, nS40, nSZ1, nV, nC, ↓reduceIte, tr_lt, fa_lt, tr_le, fa_le, tr_eq, fa_eq, and_true, true_and, and_false, false_and, il0, il1, il2, il3, il4, il5, il6, il7, il8, il9, il10, il11, il12, il15, il16, il20, il24, il31, il32, il44, il45, il48, il50, il57, il58, il59, il63, il91, il93, il97, il99, il100, il109, il113, il119, il120, il122, il200, il255, il480, il500, il501, il512, il999, il4112, il41120, il1000000, il1000003, ii_add, ii_sub, ii_mul, ii_neg, ii_le, ii_lt, ii_eq, ii_div, q_I, q_V, q_R, lt_q, rZ_q, md_M, md_16, md_4, md_8, md_10, if_true, if_false, if_pos, if_neg, mg_3, mg_0, mg_1, mg_2, mg_k, mg_up3, mg_upk, hnl, hin]
        rw [fX7_save_22, nV, il2, hrf, nC, q_I, if_neg (show ¬ ii 1 = (0 : Int32) by decide), up_up]
        rfl
  · obtain ⟨h10, h1⟩ := hI.nl hl
    refine Good_nl hI (v := 0) ?_ (hF_IS _ 1 rfl _ _) ?_
    · rw [fX6_save, lkV hk, c_chase0 hk h10, k_E]
    · rw [fX7_save, nV, e_notL0 h1, nC, q_I, if_neg (show ¬ ii 1 = (0 : Int32) by decide)]
      rfl
theorem g_restore_1 (hI : Inv C0 N0 n pl sp tv cap c A J M g) (i : Int) (q : 0 ≤ i ∧ i < 2) (y : M 6 i = 1) : Good C0 N0 n K (fL_restore 0 (ii i) 455 (CW c A J)) (fX7_restore 0 (ii i) (NW K (mg M g))) := by
  have hk := hI.1
  have hRd : isReader c 1 := hk.2.1.1
  have hSv : isSolver c 4 := hk.2.1.2.1
  have hHi : isHist c 21 := hk.2.1.2.2.1
  have hNow : isState c 303 := hk.2.1.2.2.2.1
  have hSpr : isState c 338 := hk.2.1.2.2.2.2.1
  have hPl : isPlan c pl := hk.2.2.2.1.2.1
  have h00 : up M 0 0 0 0 0 = 0 := up_s _ _ _ _
  have hld := hI.2.2.1
  have hnl := hI.2.2.2.2.2.2.2.1
  have hl : M 0 1 = 1 := by
    by_cases w : M 0 1 = 0
    · have := hnl w
      rcases (show i = 0 ∨ i = 1 by omega) with rfl | rfl
      · omega
      · omega
    · omega
  obtain ⟨h10, hM, hP, hS, hG⟩ := hI.ld hl
  obtain ⟨p0, p1, p2, p3, p4, p5, p6, p7⟩ := hP.1
  have hc1 := c_chase1 (A := A) (J := J) hk h10
  have e3 : up M 0 0 0 0 3 = M 0 3 := up_n _ _ _ _ _ _ (by omega)
  have e9 : up M 0 0 0 0 9 = M 0 9 := up_n _ _ _ _ _ _ (by omega)
  have h38 := hM.1.2.1
  have h910 := hM.1.2.2.2.2.2.2.2
  have hI0 := hI.thr 0
  have hl0 : up M 0 0 0 0 1 = 1 := (up_n _ _ _ _ _ _ (by omega)).trans hl
  have hin := e_in i 0 1 (by omega) (NW K (mg (up M 0 0 0) g))
  rw [if_pos (by omega)] at hin
  have hsv : isState c (385 + 35 * i.toNat) := by
    rcases (show i = 0 ∨ i = 1 by omega) with rfl | rfl
    · exact hk.2.1.2.2.2.2.2.1
    · exact hk.2.1.2.2.2.2.2.2
  have hpt : ptr c 373 i.toNat (385 + 35 * i.toNat) := by
    rcases (show i = 0 ∨ i = 1 by omega) with rfl | rfl
    · exact hk.2.2.1.2.1
    · exact hk.2.2.1.2.2.1
  have hki : KI A J (up M 0 0 0) (Bn n) := hI0.2.2.2.2.2.2.2.2.2
  have e6 : up M 0 0 0 6 i = 1 := (up_n _ _ _ _ _ _ (by omega)).trans y
  have a6 : A 374 i = 1 := by rw [(hki.1 i q.1 q.2).1]; exact e6
  obtain ⟨q1, q2⟩ : SR A J (385 + 35 * i.toNat) (up M 0 0 0 2) (pastg (up M 0 0 0) (8 + i)) (pastg (up M 0 0 0) (8 + i) 5) ∧ GC (up M 0 0 0) (pastg (up M 0 0 0) (8 + i)) (Bn n) := by
    rcases (show i = 0 ∨ i = 1 by omega) with rfl | rfl
    · exact hki.2.1 e6
    · exact hki.2.2 e6
  have haR := fun k => k_aR (c := c) (A := A) (J := J) _ hk.2.2.1.1 i (by omega) hpt k
  have haI := fun k => k_aI (c := c) (A := A) (J := J) hk.2.2.1.2.2.2 i (by omega) k
  obtain ⟨A1, J1, e1, s1, f1⟩ := s_copy (c := c) hNow hsv (by omega) q1 q2.1.1
  have hcl : fX0_clear 21 (CW c A1 J1) = some (Sum.inl none, CW c (up A1 21 2 0) J1) := by simp (disch := first | assumption | omega) only [fX0_clear, rwI1, rwS1, rwI2, rwS2, rwI4, rwS4, rwI5, rwS5, rwI7, rwS7, rwI8, rwS8, rwI9, rwS9, rwR0, rwR3, rwR6, rwA1, rwU1, rwA3, rwU3, rwV, rwJ, rwUJ, plI0, plS0, plI1, plS1, plI2, plS2, plI3, plS3, plI4, plS4, plI5, plS5, plI6, plS6, plI7, plS7, plR8, plR9, plR10, plA1, plU1, plA2, plU2, plA3, plU3, plV, stI2, stS2, stI3, stS3, stI4, stS4, stI5, stS5, stI6, stS6, stI7, stS7, stR0, stR1, stA2, stU2, stV, stRow, svI5, svS5, svI6, svS6, svI7, svS7, svR0, svR1, svR2, svR3, svR4, svA13, svU13, svA14, svU14, svA15, svU15, svA16, svU16, svV, svRow, svF, svUF, hiI1, hiS1, hiI2, hiS2, hiR0, hiV, hiRow, rdI2, rdS2, rdI3, rdS3, rdI4, rdS4, rdI5, rdS5, rdI6, rdS6, rdI7, rdS7, rdI8, rdS8, rdR0, rdR1, rdA1, rdU1, rdA2, rdU2, rdV, k_C, ↓reduceIte, tr_lt, fa_lt, tr_le, fa_le, tr_eq, fa_eq, and_true, true_and, and_false, false_and, il0, il1, il2, il3, il4, il5, il6, il7, il8, il9, il10, il11, il12, il15, il16, il20, il24, il31, il32, il44, il45, il48, il50, il57, il58, il59, il63, il91, il93, il97, il99, il100, il109, il113, il119, il120, il122, il200, il255, il480, il500, il501, il512, il999, il4112, il41120, il1000000, il1000003, ii_add, ii_sub, ii_mul, ii_neg, ii_le, ii_lt, ii_eq, ii_div, q_I, q_V, q_R, lt_q, rZ_q, md_M, md_16, md_4, md_8, md_10, if_true, if_false, if_pos, if_neg]
  obtain ⟨h, b1, b2⟩ := e_fetches (K := K) (M := up M 0 0 0) (g := g) (8 + i) (by omega)
  have hc : ∀ z, 0 ≤ z → z < 4112 → h z = pastg (up M 0 0 0) (8 + i) z := b2
  have x3 : up A1 21 2 0 303 3 = h 1 := by
    rw [up_n _ _ _ _ _ _ (by omega), s1.1.1.2.1, hc 1 (by omega) (by omega)]
  have hix := c_index1 i 2 q (by omega) (CW c A J)
  have eM : up (up M 0 0 0) 0 15 0 0 15 = 0 := up_s _ _ _ _
  have eM2 : up (up M 0 0 0) 0 15 0 2 = up M 0 0 0 2 := funext fun z => up_n _ _ _ _ _ _ (by omega)
  have hh1 : HI c A J (up M 0 0 0) (Bn n) := hI0.2.2.2.2.2.2.2.2.1
  have hI3 : Inv C0 N0 n pl sp tv cap c (up A 21 2 0) J (up (up M 0 0 0) 0 15 0) g := by
    refine hI0.hi hl0 ?_ ⟨?_, ?_, ?_⟩ (fun j p w => ?_) (frm_up (frm.refl _ _ _) _ _ _ rfl) ⟨fun z w => up_n _ _ _ _ _ _ (fun x => w x.2), fun b z w => up_n _ _ _ _ _ _ (by omega)⟩
    · rw [up_n _ _ _ _ _ _ (by omega)]; exact hh1.2.1
    · rw [eM, up_s]
    · rw [eM]; omega
    · rw [eM]; exact hh1.1.2.1
    · rw [eM] at w; omega
  refine Good_chg hI (v := h 1) (A' := up A1 21 2 0) (J' := J1) (M' := up (up M 0 0 0) 0 15 0) (g' := h) ?_ ?_ ?_ (hI3.chg ?_ ⟨fun b z w => ?_, fun b z w => f1.2 b z (fun x => w (Or.inl x))⟩ (scr.refl _).s4 ?_ ?_)
  · simp (disch := first | assumption | omega) only [fX6_restore, lkV hk, lkR0 hk, lkR1 hk, lkR2 hk, lkR3 hk, lkR4 hk, lkR5 hk, lkR6 hk, lkR7 hk, lkR8 hk, lkR9 hk, lkI hk, k_E, t_E, hix, haI, a6, haR, rwI1, rwS1, rwI2, rwS2, rwI4, rwS4, rwI5, rwS5, rwI7, rwS7, rwI8, rwS8, rwI9, rwS9, rwR0, rwR3, rwR6, rwA1, rwU1, rwA3, rwU3, rwV, rwJ, rwUJ, plI0, plS0, plI1, plS1, plI2, plS2, plI3, plS3, plI4, plS4, plI5, plS5, plI6, plS6, plI7, plS7, plR8, plR9, plR10, plA1, plU1, plA2, plU2, plA3, plU3, plV, stI2, stS2, stI3, stS3, stI4, stS4, stI5, stS5, stI6, stS6, stI7, stS7, stR0, stR1, stA2, stU2, stV, stRow, svI5, svS5, svI6, svS6, svI7, svS7, svR0, svR1, svR2, svR3, svR4, svA13, svU13, svA14, svU14, svA15, svU15, svA16, svU16, svV, svRow, svF, svUF, hiI1, hiS1, hiI2, hiS2, hiR0, hiV, hiRow, rdI2, rdS2, rdI3, rdS3, rdI4, rdS4, rdI5, rdS5, rdI6, rdS6, rdI7, rdS7, rdI8, rdS8, rdR0, rdR1, rdA1, rdU1, rdA2, rdU2, rdV, k_C, ↓reduceIte, tr_lt, fa_lt, tr_le, fa_le, tr_eq, fa_eq, and_true, true_and, and_false, false_and, il0, il1, il2, il3, il4, il5, il6, il7, il8, il9, il10, il11, il12, il15, il16, il20, il24, il31, il32, il44, il45, il48, il50, il57, il58, il59, il63, il91, il93, il97, il99, il100, il109, il113, il119, il120, il122, il200, il255, il480, il500, il501, il512, il999, il4112, il41120, il1000000, il1000003, ii_add, ii_sub, ii_mul, ii_neg, ii_le, ii_lt, ii_eq, ii_div, q_I, q_V, q_R, lt_q, rZ_q, md_M, md_16, md_4, md_8, md_10, if_true, if_false, if_pos, if_neg, e1, hcl, x3]
  · simp (disch := first | assumption | omega) only [fX7_restore, fX7_restore_20, fX7_restore_42, nR1, nA1, nU1, nR2, nA2, nU2, nR3, nA3, nU3, nR4, nA4, nU4, nR5, nA5, nU5, nR6, nA6, nU6, nR7, nA7, nU7, nR8, nA8, nU8, nR9, nA9, nU9, nR10, nA10, nU10, nR11, nA11, nU11, nR12, nA12, nU12, nR13, nA13, nU13, nR14, nA14, nU14, nR15, nA15, nU15, nR16, nA16, nU16, nI0, nS0, nI1, nS1, nI2, nS2, nI3, nS3, nI4, nS4, nI5, nS5, nI6, nS6, nI7, nS7, nI8, nS8, nI9, nS9, nI15, nS15, nI18, nS18, nI19, nS19, nI20, nS20, nI21, nS21, nI22, nS22, nI23, nS23, nI24, nS24, nI25, nS25, nI26, nS26, nI27, nS27, nI32, nS32, nI36, nS36, nI37, nS37, nI40, nS40, nSZ1, nV, nC, ↓reduceIte, tr_lt, fa_lt, tr_le, fa_le, tr_eq, fa_eq, and_true, true_and, and_false, false_and, il0, il1, il2, il3, il4, il5, il6, il7, il8, il9, il10, il11, il12, il15, il16, il20, il24, il31, il32, il44, il45, il48, il50, il57, il58, il59, il63, il91, il93, il97, il99, il100, il109, il113, il119, il120, il122, il200, il255, il480, il500, il501, il512, il999, il4112, il41120, il1000000, il1000003, ii_add, ii_sub, ii_mul, ii_neg, ii_le, ii_lt, ii_eq, ii_div, q_I, q_V, q_R, lt_q, rZ_q, md_M, md_16, md_4, md_8, md_10, if_true, if_false, if_pos, if_neg, mg_3, mg_0, mg_1, mg_2, mg_k, mg_up3, mg_upk, hin, e_ref0, e6, b1]
  · rw [up_n _ _ _ _ _ _ (by omega)]; exact h00
  · rw [up_n _ _ _ _ _ _ (by omega)]; exact hl0
  · unfold up
    split
    case isTrue p => rfl
    case isFalse p => exact f1.1 b z (fun x => w (Or.inl x))
  · rw [eM2]
    exact SR_cg (SR_frame s1 q2.1.1 (fun b z hb => up_n _ _ _ _ _ _ (fun e => by unfold inS at hb; omega)) (fun _ _ _ => rfl)) q2.1.1 hc
  · exact ((GC_cg q2 hM hc).at (fun z p w => up_n _ _ _ _ _ _ (by omega)) eM2).mono (Bn_s n)
theorem g_restore (hI : Inv C0 N0 n pl sp tv cap c A J M g) (i : Int) (hib : -2147483648 ≤ i ∧ i < 2147483648) : Good C0 N0 n K (fL_restore 0 (ii i) 455 (CW c A J)) (fX7_restore 0 (ii i) (NW K (mg M g))) := by
  have hk := hI.1
  have hRd : isReader c 1 := hk.2.1.1
  have hSv : isSolver c 4 := hk.2.1.2.1
  have hHi : isHist c 21 := hk.2.1.2.2.1
  have hNow : isState c 303 := hk.2.1.2.2.2.1
  have hSpr : isState c 338 := hk.2.1.2.2.2.2.1
  have hPl : isPlan c pl := hk.2.2.2.1.2.1
  have h00 : up M 0 0 0 0 0 = 0 := up_s _ _ _ _
  have hin := e_in i 0 1 (by omega) (NW K (mg (up M 0 0 0) g))
  by_cases q : 0 ≤ i ∧ i < 2
  · by_cases y : M 6 i = 1
    · exact g_restore_1 hI i q y
    · rw [if_pos (by omega)] at hin
      have hki := hI.2.2.2.2.2.2.2.2.2.1 i q.1 q.2
      have e6 : up M 0 0 0 6 i = 0 := (up_n _ _ _ _ _ _ (by omega)).trans (by omega)
      have a6 : A 374 i = 0 := by omega
      have haI := fun k => k_aI (c := c) (A := A) (J := J) hk.2.2.1.2.2.2 i (by omega) k
      have hix := c_index1 i 2 q (by omega) (CW c A J)
      have hrf := e_ref1 (K := K) (M := up M 0 0 0) (g := g) h00 2 (by omega)
      refine Good_no (code := 2) hI (E := "java/lang/IllegalStateException") (A' := A) (J' := J) ?_ (frm.refl _ _ _) (fun τ => (hF2 _ _ _ _ _ _ (by decide)).trans (hF1 _ _ 2 rfl _ _ _)) (by omega) (v := 0) ?_
      · simp (disch := first | assumption | omega) only [fX6_restore, lkV hk, lkR0 hk, lkR1 hk, lkR2 hk, lkR3 hk, lkR4 hk, lkR5 hk, lkR6 hk, lkR7 hk, lkR8 hk, lkR9 hk, lkI hk, k_E, t_E, hix, haI, a6, rwI1, rwS1, rwI2, rwS2, rwI4, rwS4, rwI5, rwS5, rwI7, rwS7, rwI8, rwS8, rwI9, rwS9, rwR0, rwR3, rwR6, rwA1, rwU1, rwA3, rwU3, rwV, rwJ, rwUJ, plI0, plS0, plI1, plS1, plI2, plS2, plI3, plS3, plI4, plS4, plI5, plS5, plI6, plS6, plI7, plS7, plR8, plR9, plR10, plA1, plU1, plA2, plU2, plA3, plU3, plV, stI2, stS2, stI3, stS3, stI4, stS4, stI5, stS5, stI6, stS6, stI7, stS7, stR0, stR1, stA2, stU2, stV, stRow, svI5, svS5, svI6, svS6, svI7, svS7, svR0, svR1, svR2, svR3, svR4, svA13, svU13, svA14, svU14, svA15, svU15, svA16, svU16, svV, svRow, svF, svUF, hiI1, hiS1, hiI2, hiS2, hiR0, hiV, hiRow, rdI2, rdS2, rdI3, rdS3, rdI4, rdS4, rdI5, rdS5, rdI6, rdS6, rdI7, rdS7, rdI8, rdS8, rdR0, rdR1, rdA1, rdU1, rdA2, rdU2, rdV, k_C, ↓reduceIte, tr_lt, fa_lt, tr_le, fa_le, tr_eq, fa_eq, and_true, true_and, and_false, false_and, il0, il1, il2, il3, il4, il5, il6, il7, il8, il9, il10, il11, il12, il15, il16, il20, il24, il31, il32, il44, il45, il48, il50, il57, il58, il59, il63, il91, il93, il97, il99, il100, il109, il113, il119, il120, il122, il200, il255, il480, il500, il501, il512, il999, il4112, il41120, il1000000, il1000003, ii_add, ii_sub, ii_mul, ii_neg, ii_le, ii_lt, ii_eq, ii_div, q_I, q_V, q_R, lt_q, rZ_q, md_M, md_16, md_4, md_8, md_10, if_true, if_false, if_pos, if_neg, t_E]
      · simp (disch := first | assumption | omega) only [fX7_restore, fX7_restore_20, nR1, nA1, nU1, nR2, nA2, nU2, nR3, nA3, nU3, nR4, nA4, nU4, nR5, nA5, nU5, nR6, nA6, nU6, nR7, nA7, nU7, nR8, nA8, nU8, nR9, nA9, nU9, nR10, nA10, nU10, nR11, nA11, nU11, nR12, nA12, nU12, nR13, nA13, nU13, nR14, nA14, nU14, nR15, nA15, nU15, nR16, nA16, nU16, nI0, nS0, nI1, nS1, nI2, nS2, nI3, nS3, nI4, nS4, nI5, nS5, nI6, nS6, nI7, nS7, nI8, nS8, nI9, nS9, nI15, nS15, nI18, nS18, nI19, nS19, nI20, nS20, nI21, nS21, nI22, nS22, nI23, nS23, nI24, nS24, nI25, nS25, nI26, nS26, nI27, nS27, nI32, nS32, nI36, nS36, nI37, nS37, nI40, nS40, nSZ1, nV, nC, ↓reduceIte, tr_lt, fa_lt, tr_le, fa_le, tr_eq, fa_eq, and_true, true_and, and_false, false_and, il0, il1, il2, il3, il4, il5, il6, il7, il8, il9, il10, il11, il12, il15, il16, il20, il24, il31, il32, il44, il45, il48, il50, il57, il58, il59, il63, il91, il93, il97, il99, il100, il109, il113, il119, il120, il122, il200, il255, il480, il500, il501, il512, il999, il4112, il41120, il1000000, il1000003, ii_add, ii_sub, ii_mul, ii_neg, ii_le, ii_lt, ii_eq, ii_div, q_I, q_V, q_R, lt_q, rZ_q, md_M, md_16, md_4, md_8, md_10, if_true, if_false, if_pos, if_neg, mg_3, mg_0, mg_1, mg_2, mg_k, mg_up3, mg_upk, hin, e_ref0, e6]
        rw [fX7_restore_42, nV, il2, hrf, nC, q_I, if_neg (show ¬ ii 1 = (0 : Int32) by decide), up_up]
        rfl
  · rw [if_neg (by omega)] at hin
    have hci := c_index0 (c := c) (A := A) (J := J) i 2 q (by omega) hib
    have hrf := e_ref1 (K := K) (M := up M 0 0 0) (g := g) h00 1 (by omega)
    refine Good_no (code := 1) hI (E := "java/lang/IndexOutOfBoundsException") (A' := A) (J' := J) ?_ (frm.refl _ _ _) (fun τ => hF1 _ _ 1 rfl _ _ _) (by omega) (v := 0) ?_
    · rw [fX6_restore, il2, hci, k_E]
    · simp (disch := first | assumption | omega) only [fX7_restore, nR1, nA1, nU1, nR2, nA2, nU2, nR3, nA3, nU3, nR4, nA4, nU4, nR5, nA5, nU5, nR6, nA6, nU6, nR7, nA7, nU7, nR8, nA8, nU8, nR9, nA9, nU9, nR10, nA10, nU10, nR11, nA11, nU11, nR12, nA12, nU12, nR13, nA13, nU13, nR14, nA14, nU14, nR15, nA15, nU15, nR16, nA16, nU16, nI0, nS0, nI1, nS1, nI2, nS2, nI3, nS3, nI4, nS4, nI5, nS5, nI6, nS6, nI7, nS7, nI8, nS8, nI9, nS9, nI15, nS15, nI18, nS18, nI19, nS19, nI20, nS20, nI21, nS21, nI22, nS22, nI23, nS23, nI24, nS24, nI25, nS25, nI26, nS26, nI27, nS27, nI32, nS32, nI36, nS36, nI37, nS37, nI40, nS40, nSZ1, nV, nC, ↓reduceIte, tr_lt, fa_lt, tr_le, fa_le, tr_eq, fa_eq, and_true, true_and, and_false, false_and, il0, il1, il2, il3, il4, il5, il6, il7, il8, il9, il10, il11, il12, il15, il16, il20, il24, il31, il32, il44, il45, il48, il50, il57, il58, il59, il63, il91, il93, il97, il99, il100, il109, il113, il119, il120, il122, il200, il255, il480, il500, il501, il512, il999, il4112, il41120, il1000000, il1000003, ii_add, ii_sub, ii_mul, ii_neg, ii_le, ii_lt, ii_eq, ii_div, q_I, q_V, q_R, lt_q, rZ_q, md_M, md_16, md_4, md_8, md_10, if_true, if_false, if_pos, if_neg, mg_3, mg_0, mg_1, mg_2, mg_k, mg_up3, mg_upk, hin]
      rw [fX7_restore_20, nV, il1, hrf, nC, q_I, if_neg (show ¬ ii 1 = (0 : Int32) by decide), up_up]
      rfl
end CHG6
