/-! THE HISTORY: what a change keeps of the content, on both sides -/
section HIS
variable {K : Nat × Nat} {c : CC} {A A' : AI} {J J' : JI} {M M' : AI} {g g' : Int → Int} {len : Int → Int} {f : Int} {B : Int} {Q : Nat}
theorem SA.at (h : SA M) (e : ∀ z, 2 ≤ z → z ≤ 9 → M' 0 z = M 0 z) (e1 : M' 1 = M 1) (e2 : M' 2 = M 2) : SA M' := by
  unfold SA at h ⊢
  rw [e1, e2, e 2 (by omega) (by omega), e 3 (by omega) (by omega), e 4 (by omega) (by omega), e 5 (by omega) (by omega), e 6 (by omega) (by omega), e 7 (by omega) (by omega), e 8 (by omega) (by omega), e 9 (by omega) (by omega)]
  exact h
theorem GC.at (h : GC M g B) (e : ∀ z, 2 ≤ z → z ≤ 9 → M' 0 z = M 0 z) (e2 : M' 2 = M 2) : GC M' g B := by
  obtain ⟨⟨g1, g2, g3, g4, g5⟩, h2, h3, h4, h5⟩ := h
  have eg : ∀ r, gapM M' g r = gapM M g r := fun r => by unfold gapM; rw [e2, e 2 (by omega) (by omega), e 4 (by omega) (by omega)]
  exact ⟨⟨g1, g2, fun r a b => g3 r (by rw [e 3 (by omega) (by omega)] at a; exact a) b, fun r a b k p q => by rw [e 9 (by omega) (by omega)]; exact g4 r a b k p q, g5⟩, by rw [show lim M' = lim M from funext fun k => by unfold lim; rw [e 9 (by omega) (by omega)]]; exact h2, h3, fun r a b q => by rw [e 5 (by omega) (by omega)]; exact h4 r a b q, fun r a b => by rw [eg]; exact h5 r a (by rw [e 3 (by omega) (by omega)] at b; exact b)⟩
theorem PR.at (h : PR A Q M) (e : ∀ z, 2 ≤ z → z ≤ 9 → M' 0 z = M 0 z) (e1 : M' 1 = M 1) (e2 : M' 2 = M 2) : PR A Q M' := by
  unfold PR at h ⊢
  rw [e1, e2, e 2 (by omega) (by omega), e 3 (by omega) (by omega), e 4 (by omega) (by omega), e 5 (by omega) (by omega), e 6 (by omega) (by omega), e 7 (by omega) (by omega), e 8 (by omega) (by omega), e 9 (by omega) (by omega)]
  exact h
theorem h_remember (hH : isHist c 21) (hS : isState c 303) (h : SR A J 303 len g f) (hg : GR g) (h1 : 0 ≤ A 21 1 ∧ A 21 1 < 8) (h2 : 0 ≤ A 21 2 ∧ A 21 2 ≤ 8) :
    ∃ A' J', fX0_remember 21 303 (CW c A J) = some (Sum.inl none, CW c A' J') ∧ SR A' J' (hs 21 (A 21 1)) len g f ∧ (A' 21 1 = (A 21 1 + 1) % 8 ∧ A' 21 2 = if A 21 2 = 8 then 8 else A 21 2 + 1) ∧ frm (fun b => b = 21 ∨ inS (hs 21 (A 21 1)) b) A A' J J' := by
  have hSt := (hH.2.2 (A 21 1) h1.1 h1.2).2
  obtain ⟨A1, J1, e1, s1, f1⟩ := s_copy (c := c) hSt hS (by unfold hs; omega) h hg
  have a1 : A1 21 1 = A 21 1 := f1.1 21 1 (by unfold inS hs; omega)
  have a2 : A1 21 2 = A 21 2 := f1.1 21 2 (by unfold inS hs; omega)
  have hm : 0 ≤ (A 21 1 + 1) % 8 ∧ (A 21 1 + 1) % 8 < 8 := by omega
  have b2 : up A1 21 1 ((A 21 1 + 1) % 8) 21 2 = A 21 2 := by rw [up_n _ _ _ _ _ _ (by omega)]; exact a2
  have key : ∀ v : Int, SR (up (up A1 21 1 ((A 21 1 + 1) % 8)) 21 2 v) J1 (hs 21 (A 21 1)) len g f ∧ (up (up A1 21 1 ((A 21 1 + 1) % 8)) 21 2 v 21 1 = (A 21 1 + 1) % 8 ∧ up (up A1 21 1 ((A 21 1 + 1) % 8)) 21 2 v 21 2 = v) ∧ frm (fun b => b = 21 ∨ inS (hs 21 (A 21 1)) b) A (up (up A1 21 1 ((A 21 1 + 1) % 8)) 21 2 v) J J1 := by
    intro v
    refine ⟨SR_frame s1 hg (fun b z hb => ?_) (fun _ _ _ => rfl), ⟨?_, up_s _ _ _ _⟩, frm_up (X := fun b => b = 21 ∨ inS (hs 21 (A 21 1)) b) (frm_up (X := fun b => b = 21 ∨ inS (hs 21 (A 21 1)) b) (f1.mono fun b hb => Or.inr hb) 21 1 _ (Or.inl rfl)) 21 2 v (Or.inl rfl)⟩
    · have : b ≠ 21 := fun q => by unfold inS hs at hb; omega
      rw [up_n _ _ _ _ _ _ (fun q => this q.1), up_n _ _ _ _ _ _ (fun q => this q.1)]
    · rw [up_n _ _ _ _ _ _ (by omega), up_s]
  by_cases y : A 21 2 = 8
  · refine ⟨up (up A1 21 1 ((A 21 1 + 1) % 8)) 21 2 8, J1, ?_, (key 8).1, ?_, (key 8).2.2⟩
    · simp (disch := first | assumption | omega) only [fX0_remember, rwI1, rwS1, rwI2, rwS2, rwI4, rwS4, rwI5, rwS5, rwI7, rwS7, rwI8, rwS8, rwI9, rwS9, rwR0, rwR3, rwR6, rwA1, rwU1, rwA3, rwU3, rwV, rwJ, rwUJ, plI0, plS0, plI1, plS1, plI2, plS2, plI3, plS3, plI4, plS4, plI5, plS5, plI6, plS6, plI7, plS7, plR8, plR9, plR10, plA1, plU1, plA2, plU2, plA3, plU3, plV, stI2, stS2, stI3, stS3, stI4, stS4, stI5, stS5, stI6, stS6, stI7, stS7, stR0, stR1, stA2, stU2, stV, stRow, svI5, svS5, svI6, svS6, svI7, svS7, svR0, svR1, svR2, svR3, svR4, svA13, svU13, svA14, svU14, svA15, svU15, svA16, svU16, svV, svRow, svF, svUF, hiI1, hiS1, hiI2, hiS2, hiR0, hiV, hiRow, rdI2, rdS2, rdI3, rdS3, rdI4, rdS4, rdI5, rdS5, rdI6, rdS6, rdI7, rdS7, rdI8, rdS8, rdR0, rdR1, rdA1, rdU1, rdA2, rdU2, rdV, k_C, ↓reduceIte, tr_lt, fa_lt, tr_le, fa_le, tr_eq, fa_eq, and_true, true_and, and_false, false_and, il0, il1, il2, il3, il4, il5, il6, il7, il8, il9, il10, il11, il12, il15, il16, il20, il24, il31, il32, il44, il45, il48, il50, il57, il58, il59, il63, il91, il93, il97, il99, il100, il109, il113, il119, il120, il122, il200, il255, il480, il500, il501, il512, il999, il4112, il41120, il1000000, il1000003, ii_add, ii_sub, ii_mul, ii_neg, ii_le, ii_lt, ii_eq, ii_div, q_I, q_V, q_R, lt_q, rZ_q, md_M, md_16, md_4, md_8, md_10, if_true, if_false, if_pos, if_neg, e1, a1, b2, y]
    · rw [if_pos y]; exact (key 8).2.1
  · refine ⟨up (up A1 21 1 ((A 21 1 + 1) % 8)) 21 2 (A 21 2 + 1), J1, ?_, (key _).1, ?_, (key _).2.2⟩
    · simp (disch := first | assumption | omega) only [fX0_remember, rwI1, rwS1, rwI2, rwS2, rwI4, rwS4, rwI5, rwS5, rwI7, rwS7, rwI8, rwS8, rwI9, rwS9, rwR0, rwR3, rwR6, rwA1, rwU1, rwA3, rwU3, rwV, rwJ, rwUJ, plI0, plS0, plI1, plS1, plI2, plS2, plI3, plS3, plI4, plS4, plI5, plS5, plI6, plS6, plI7, plS7, plR8, plR9, plR10, plA1, plU1, plA2, plU2, plA3, plU3, plV, stI2, stS2, stI3, stS3, stI4, stS4, stI5, stS5, stI6, stS6, stI7, stS7, stR0, stR1, stA2, stU2, stV, stRow, svI5, svS5, svI6, svS6, svI7, svS7, svR0, svR1, svR2, svR3, svR4, svA13, svU13, svA14, svU14, svA15, svU15, svA16, svU16, svV, svRow, svF, svUF, hiI1, hiS1, hiI2, hiS2, hiR0, hiV, hiRow, rdI2, rdS2, rdI3, rdS3, rdI4, rdS4, rdI5, rdS5, rdI6, rdS6, rdI7, rdS7, rdI8, rdS8, rdR0, rdR1, rdA1, rdU1, rdA2, rdU2, rdV, k_C, ↓reduceIte, tr_lt, fa_lt, tr_le, fa_le, tr_eq, fa_eq, and_true, true_and, and_false, false_and, il0, il1, il2, il3, il4, il5, il6, il7, il8, il9, il10, il11, il12, il15, il16, il20, il24, il31, il32, il44, il45, il48, il50, il57, il58, il59, il63, il91, il93, il97, il99, il100, il109, il113, il119, il120, il122, il200, il255, il480, il500, il501, il512, il999, il4112, il41120, il1000000, il1000003, ii_add, ii_sub, ii_mul, ii_neg, ii_le, ii_lt, ii_eq, ii_div, q_I, q_V, q_R, lt_q, rZ_q, md_M, md_16, md_4, md_8, md_10, if_true, if_false, if_pos, if_neg, e1, a1, b2]
    · rw [if_neg y]; exact (key _).2.1
theorem h_bringBack (hH : isHist c 21) (hS : isState c 303) (h1 : 0 ≤ A 21 1 ∧ A 21 1 < 8) (h2 : 0 < A 21 2 ∧ A 21 2 ≤ 8) (h : SR A J (hs 21 ((A 21 1 + 8 - 1) % 8)) len g f) (hg : GR g) :
    ∃ A' J', fX0_bringBack 21 303 (CW c A J) = some (Sum.inl none, CW c A' J') ∧ SR A' J' 303 len g f ∧ (A' 21 1 = (A 21 1 + 8 - 1) % 8 ∧ A' 21 2 = A 21 2 - 1) ∧ frm (fun b => b = 21 ∨ inS 303 b) A A' J J' := by
  have hm : 0 ≤ (A 21 1 + 8 - 1) % 8 ∧ (A 21 1 + 8 - 1) % 8 < 8 := by omega
  have hSt := (hH.2.2 ((A 21 1 + 8 - 1) % 8) hm.1 hm.2).2
  have h0 : SR (up A 21 1 ((A 21 1 + 8 - 1) % 8)) J (hs 21 ((A 21 1 + 8 - 1) % 8)) len g f := SR_frame h hg (fun b z hb => up_n _ _ _ _ _ _ (fun q => by unfold inS hs at hb; omega)) (fun _ _ _ => rfl)
  obtain ⟨A1, J1, e1, s1, f1⟩ := s_copy (c := c) hS hSt (by unfold hs; omega) h0 hg
  have a1 : up A 21 1 ((A 21 1 + 8 - 1) % 8) 21 1 = (A 21 1 + 8 - 1) % 8 := up_s _ _ _ _
  have b1 : A1 21 1 = (A 21 1 + 8 - 1) % 8 := by rw [f1.1 21 1 (by unfold inS; omega)]; exact a1
  have b2 : A1 21 2 = A 21 2 := by rw [f1.1 21 2 (by unfold inS; omega), up_n _ _ _ _ _ _ (by omega)]
  refine ⟨up A1 21 2 (A 21 2 - 1), J1, ?_, SR_frame s1 hg (fun b z hb => up_n _ _ _ _ _ _ (fun q => by unfold inS at hb; omega)) (fun _ _ _ => rfl), ⟨?_, up_s _ _ _ _⟩, ?_⟩
  · simp (disch := first | assumption | omega) only [fX0_bringBack, rwI1, rwS1, rwI2, rwS2, rwI4, rwS4, rwI5, rwS5, rwI7, rwS7, rwI8, rwS8, rwI9, rwS9, rwR0, rwR3, rwR6, rwA1, rwU1, rwA3, rwU3, rwV, rwJ, rwUJ, plI0, plS0, plI1, plS1, plI2, plS2, plI3, plS3, plI4, plS4, plI5, plS5, plI6, plS6, plI7, plS7, plR8, plR9, plR10, plA1, plU1, plA2, plU2, plA3, plU3, plV, stI2, stS2, stI3, stS3, stI4, stS4, stI5, stS5, stI6, stS6, stI7, stS7, stR0, stR1, stA2, stU2, stV, stRow, svI5, svS5, svI6, svS6, svI7, svS7, svR0, svR1, svR2, svR3, svR4, svA13, svU13, svA14, svU14, svA15, svU15, svA16, svU16, svV, svRow, svF, svUF, hiI1, hiS1, hiI2, hiS2, hiR0, hiV, hiRow, rdI2, rdS2, rdI3, rdS3, rdI4, rdS4, rdI5, rdS5, rdI6, rdS6, rdI7, rdS7, rdI8, rdS8, rdR0, rdR1, rdA1, rdU1, rdA2, rdU2, rdV, k_C, ↓reduceIte, tr_lt, fa_lt, tr_le, fa_le, tr_eq, fa_eq, and_true, true_and, and_false, false_and, il0, il1, il2, il3, il4, il5, il6, il7, il8, il9, il10, il11, il12, il15, il16, il20, il24, il31, il32, il44, il45, il48, il50, il57, il58, il59, il63, il91, il93, il97, il99, il100, il109, il113, il119, il120, il122, il200, il255, il480, il500, il501, il512, il999, il4112, il41120, il1000000, il1000003, ii_add, ii_sub, ii_mul, ii_neg, ii_le, ii_lt, ii_eq, ii_div, q_I, q_V, q_R, lt_q, rZ_q, md_M, md_16, md_4, md_8, md_10, if_true, if_false, if_pos, if_neg, a1, e1, b2]
  · rw [up_n _ _ _ _ _ _ (by omega)]; exact b1
  · refine frm_up ?_ _ _ _ (Or.inl rfl)
    exact frm.trans (frm_up (frm.refl _ _ _) _ _ _ (Or.inl rfl)) (f1.mono fun b hb => Or.inr hb)
end HIS
section HIS2
variable {C0 N0 n : Nat} {K : Nat × Nat} {c : CC} {A A' : AI} {J J' : JI} {M M' : AI} {g g' o : Int → Int} {pl sp tv cap : Nat} {f B : Int}
theorem Inv.li (h : Inv C0 N0 n pl sp tv cap c A J M g) (hl : M 0 1 = 1) : LI A J M g pl (Bn n) := h.2.2.2.2.2.2.1 hl
/-- the content is other, on both sides -/
theorem Inv.st (h : Inv C0 N0 n pl sp tv cap c A J M g) (hl : M 0 1 = 1) (hf : frm (inS 303) A A' J J') (hS : SR A' J' 303 (M 2) g' (g' 5)) (hG : GC M g' (Bn n)) : Inv C0 N0 n pl sp tv cap c A' J' M g' := by
  obtain ⟨h1, h2, h3, h4, ⟨r1, r2, r3, r4⟩, ⟨t1, t2, t3⟩, h7, h8, ⟨p1, p2, p3⟩, ⟨k1, k2, k3⟩⟩ := h
  have hap := h1.2.2.2.1.1
  have htv := h1.2.2.2.2.1.2.2.2
  have fA : ∀ (b : Nat) (z : Int), (b < 303 ∨ 338 ≤ b) → A' b z = A b z := fun b z q => hf.1 b z (by unfold inS; omega)
  have fS : ∀ S : Nat, (S + 35 ≤ 303 ∨ 338 ≤ S) → ∀ {g : Int → Int} {f : Int}, GR g → SR A J S (M 2) g f → SR A' J' S (M 2) g f := fun S hS g f hg hs =>
    SR_frame hs hg (fun b z hb => fA b z (by unfold inS at hb; omega)) (fun b z hb => hf.2 b z (by unfold inS at hb ⊢; omega))
  refine ⟨h1, h2, by rw [fA 0 10 (by omega)]; exact h3, h4, ⟨by rw [fA 1 2 (by omega)]; exact r1, fun k a b => by rw [fA 2 k (by omega)]; exact r2 k a b, by rw [fA 1 3 (by omega)]; exact r3, by rw [fA 1 4 (by omega)]; exact r4⟩, ⟨by rw [fA 375 3 (by omega), fA 375 1 (by omega)]; exact t1, t2, fun k a b => by rw [fA tv k (by omega)]; exact t3 k a b⟩, fun _ => ?_, h8, ⟨by rw [fA 21 2 (by omega)]; exact p1, by rw [fA 21 1 (by omega)]; exact p2, fun i a b => ?_⟩, ⟨fun j a b => by rw [fA 374 j (by omega)]; exact k1 j a b, fun hl => ⟨fS 385 (by omega) (k2 hl).2.1.1 (k2 hl).1, (k2 hl).2⟩, fun hl => ⟨fS 420 (by omega) (k3 hl).2.1.1 (k3 hl).1, (k3 hl).2⟩⟩⟩
  · obtain ⟨l1, l2, l3, l4⟩ := h7 hl
    exact ⟨l1, PR_frm l2 (fun b z hb => fA b z (by omega)), hS, hG⟩
  · obtain ⟨q1, q2⟩ := p3 i a b
    rw [fA 21 1 (by omega)]
    exact ⟨fS _ (by unfold hs; omega) q2.1.1 q1, q2⟩
/-- .. and scratch -/
theorem Inv.chg (h : Inv C0 N0 n pl sp tv cap c A J M g) (hl : M 0 1 = 1) (hf : frm (fun b => inS 303 b ∨ scO b) A A' J J') (hm : scr4 M M') (hS : SR A' J' 303 (M 2) g' (g' 5)) (hG : GC M g' (Bn (n + 1))) : Inv C0 N0 (n + 1) pl sp tv cap c A' J' M' g' := by
  have f0 : frm scO A (fun b z => if 303 ≤ b ∧ b < 338 then A b z else A' b z) J (fun b j => if 303 ≤ b ∧ b < 338 then J b j else J' b j) := by
    refine ⟨fun b z q => ?_, fun b z q => ?_⟩
    · by_cases y : 303 ≤ b ∧ b < 338
      · exact if_pos y
      · exact (if_neg y).trans (hf.1 b z (fun x => x.elim (fun x => y (by unfold inS at x; omega)) q))
    · by_cases y : 303 ≤ b ∧ b < 338
      · exact if_pos y
      · exact (if_neg y).trans (hf.2 b z (fun x => x.elim (fun x => y (by unfold inS at x; omega)) q))
  have h0 := (h.c4 (M' 4)).scr (n' := n + 1) (c' := c) (Nat.le_succ n) ⟨rfl, rfl, rfl⟩ ⟨by have := h.2.1.2.1; omega, by have := h.2.1.2.2; omega⟩ f0 (M' := M') ⟨fun z q p => hm.c4.1 z q, hm.c4.2⟩
  have e2 : M' 2 = M 2 := funext fun z => hm.2 2 z (by omega) (by omega) (by omega)
  refine h0.st ((hm.1 1 (by omega)).trans hl) ⟨fun b z q => ?_, fun b z q => ?_⟩ (by rw [e2]; exact hS) (hG.at (fun z a b => hm.1 z (by omega)) e2)
  · exact (if_neg (fun y => q (by unfold inS; omega))).symm
  · exact (if_neg (fun y => q (by unfold inS; omega))).symm
/-- the content goes into the history -/
theorem Inv.rem (h : Inv C0 N0 n pl sp tv cap c A J M g) (hl : M 0 1 = 1) (hM : KAll M g (M 0 15) M') (hS : SR A' J' (hs 21 (A 21 1)) (M 2) g (g 5)) (hA : A' 21 1 = (A 21 1 + 1) % 8 ∧ A' 21 2 = if A 21 2 = 8 then 8 else A 21 2 + 1) (hf : frm (fun b => b = 21 ∨ inS (hs 21 (A 21 1)) b) A A' J J') : Inv C0 N0 n pl sp tv cap c A' J' M' g := by
  obtain ⟨h1, h2, h3, h4, ⟨r1, r2, r3, r4⟩, ⟨t1, t2, t3⟩, h7, h8, ⟨p1, p2, p3⟩, ⟨k1, k2, k3⟩⟩ := h
  obtain ⟨⟨m1, m2, m3⟩, m4, m5, m6⟩ := hM
  obtain ⟨a1, a2⟩ := hA
  obtain ⟨l1, l2, l3, l4⟩ := h7 hl
  have hap := h1.2.2.2.1.1
  have htv := h1.2.2.2.2.1.2.2.2
  have e1 : M' 1 = M 1 := funext fun z => m3 1 z (by omega) (by omega)
  have e2 : M' 2 = M 2 := funext fun z => m3 2 z (by omega) (by omega)
  have e0 : ∀ z, 2 ≤ z → z ≤ 9 → M' 0 z = M 0 z := fun z a b => m2 z (by omega)
  have fA : ∀ (b : Nat) (z : Int), (b < 21 ∨ 303 ≤ b) → A' b z = A b z := fun b z q => hf.1 b z (by unfold inS hs; omega)
  have fS : ∀ S : Nat, (303 ≤ S) → ∀ {g : Int → Int} {f : Int}, GR g → SR A J S (M 2) g f → SR A' J' S (M' 2) g f := fun S hS g f hg hsr => by
    rw [e2]
    exact SR_frame hsr hg (fun b z hb => fA b z (by unfold inS at hb; omega)) (fun b z hb => hf.2 b z (by unfold inS at hb ⊢; unfold hs; omega))
  have fG : ∀ {g : Int → Int} {B : Int}, GC M g B → GC M' g B := fun hg => hg.at e0 e2
  have l1' : SA M' := l1.at e0 e1 e2
  have fK : ∀ j : Int, 8 ≤ j → ∀ z, 0 ≤ z → z < 4112 → pastg M' j z = pastg M j z := fun j hj z a b => m6 _ (by omega)
  refine ⟨h1, h2, ?_, ?_, ⟨?_, fun k a b => ?_, ?_, ?_⟩, ⟨?_, ?_, fun k a b => ?_⟩, fun _ => ⟨l1', ?_, fS 303 (by omega) l4.1.1 l3, fG l4⟩, fun z => ?_, ⟨⟨?_, ?_⟩, ?_, fun i a b => ?_⟩, ⟨fun j a b => ?_, fun hl => ?_, fun hl => ?_⟩⟩
  · rw [fA 0 10 (by omega), m2 1 (by omega)]; exact h3
  · rw [m2 37 (by omega)]; exact h4
  · rw [fA 1 2 (by omega), m2 18 (by omega)]; exact r1
  · rw [m2 18 (by omega)] at b
    rw [fA 2 k (by omega), m3 7 k (by omega) (by omega)]; exact r2 k a b
  · rw [fA 1 3 (by omega), m2 19 (by omega)]; exact r3
  · rw [fA 1 4 (by omega), m2 20 (by omega)]; exact r4
  · rw [fA 375 3 (by omega), fA 375 1 (by omega), m2 40 (by omega)]; exact t1
  · rw [m2 40 (by omega)]; exact t2
  · rw [fA tv k (by omega), m2 40 (by omega), m3 16 k (by omega) (by omega)]; exact t3 k a b
  · exact (PR_frm l2 (fun b z hb => fA b z (by omega))).at e0 e1 e2
  · rw [m2 1 (by omega)] at z; omega
  · rw [a2, m1, p1.1]
  · rw [m1]; split <;> omega
  · rw [a1]; omega
  · rw [m1] at b
    rw [a1, m1]
    by_cases y : i = (if M 0 15 = 8 then 8 else M 0 15 + 1) - 1
    · have ex : ((A 21 1 + 1) % 8 - (if M 0 15 = 8 then 8 else M 0 15 + 1) + i) % 8 = A 21 1 := by rw [y]; omega
      rw [ex, y]
      have hc : ∀ z, 0 ≤ z → z < 4112 → pastg M' ((if M 0 15 = 8 then 8 else M 0 15 + 1) - 1) z = g z := m4
      refine ⟨?_, GC_cg (fG l4) l1' hc⟩
      rw [e2]
      exact SR_cg hS l4.1.1 hc
    · have hc := m5 i a (by omega)
      by_cases w : M 0 15 = 8
      · rw [if_pos w] at b y hc ⊢
        obtain ⟨q1, q2⟩ := p3 (i + 1) (by omega) (by omega)
        have ex : ((A 21 1 + 1) % 8 - 8 + i) % 8 = (A 21 1 - M 0 15 + (i + 1)) % 8 := by omega
        rw [ex]
        have hne : (A 21 1 - M 0 15 + (i + 1)) % 8 ≠ A 21 1 := by omega
        have hrg : 0 ≤ (A 21 1 - M 0 15 + (i + 1)) % 8 ∧ (A 21 1 - M 0 15 + (i + 1)) % 8 < 8 := by omega
        have q3 : SR A' J' (hs 21 ((A 21 1 - M 0 15 + (i + 1)) % 8)) (M' 2) (pastg M (i + 1)) (pastg M (i + 1) 5) := by
          rw [e2]
          exact SR_frame q1 q2.1.1 (fun b z hb => hf.1 b z (by unfold inS hs at hb ⊢; omega)) (fun b z hb => hf.2 b z (by unfold inS hs at hb ⊢; omega))
        exact ⟨SR_cg q3 q2.1.1 hc, GC_cg (fG q2) l1' hc⟩
      · rw [if_neg w] at b y hc ⊢
        obtain ⟨q1, q2⟩ := p3 i a (by omega)
        have ex : ((A 21 1 + 1) % 8 - (M 0 15 + 1) + i) % 8 = (A 21 1 - M 0 15 + i) % 8 := by omega
        rw [ex]
        have hne : (A 21 1 - M 0 15 + i) % 8 ≠ A 21 1 := by omega
        have hrg : 0 ≤ (A 21 1 - M 0 15 + i) % 8 ∧ (A 21 1 - M 0 15 + i) % 8 < 8 := by omega
        have q3 : SR A' J' (hs 21 ((A 21 1 - M 0 15 + i) % 8)) (M' 2) (pastg M i) (pastg M i 5) := by
          rw [e2]
          exact SR_frame q1 q2.1.1 (fun b z hb => hf.1 b z (by unfold inS hs at hb ⊢; omega)) (fun b z hb => hf.2 b z (by unfold inS hs at hb ⊢; omega))
        exact ⟨SR_cg q3 q2.1.1 hc, GC_cg (fG q2) l1' hc⟩
  · rw [fA 374 j (by omega), m3 6 j (by omega) (by omega)]; exact k1 j a b
  · rw [m3 6 0 (by omega) (by omega)] at hl
    obtain ⟨q1, q2⟩ := k2 hl
    exact ⟨SR_cg (fS 385 (by omega) q2.1.1 q1) q2.1.1 (fK 8 (by omega)), GC_cg (fG q2) l1' (fK 8 (by omega))⟩
  · rw [m3 6 1 (by omega) (by omega)] at hl
    obtain ⟨q1, q2⟩ := k3 hl
    exact ⟨SR_cg (fS 420 (by omega) q2.1.1 q1) q2.1.1 (fK 9 (by omega)), GC_cg (fG q2) l1' (fK 9 (by omega))⟩
theorem remB (h : Inv C0 N0 n pl sp tv cap c A J M g) (hl : M 0 1 = 1) : ∃ A1 J1 M1, fX0_remember 21 303 (CW c A J) = some (Sum.inl none, CW c A1 J1) ∧ fX7_keepsAll 0 (NW K (mg M g)) = some (Sum.inl none, NW K (mg M1 g)) ∧ Inv C0 N0 n pl sp tv cap c A1 J1 M1 g ∧ ((∀ z, z ≠ 15 → M1 0 z = M 0 z) ∧ ∀ (b : Nat) (z : Int), 0 < b → b ≠ 5 → M1 b z = M b z) ∧ frm (fun b => 21 ≤ b ∧ b < 303) A A1 J J1 := by
  obtain ⟨l1, l2, l3, l4⟩ := h.li hl
  have hh := h.2.2.2.2.2.2.2.2.1
  have hk := h.1
  obtain ⟨A1, J1, e1, s1, a1, f1⟩ := h_remember (c := c) hk.2.1.2.2.1 hk.2.1.2.2.2.1 l3 l4.1.1 hh.2.1 (by have := hh.1; omega)
  obtain ⟨M1, m1, m2⟩ := e_keepsAll (K := K) (M := M) (g := g) (M 0 15) hh.1.2 rfl
  refine ⟨A1, J1, M1, e1, m1, h.rem hl m2 s1 a1 f1, ⟨m2.1.2.1, m2.1.2.2⟩, f1.mono fun b hb => ?_⟩
  have := hh.2.1
  unfold inS hs at hb
  omega
end HIS2
