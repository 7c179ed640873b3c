/-! THE READER: a line that tells a kind -/
theorem fdN_b (met len : Int → Int) (m L : Int) : ∀ (k : Nat) (i : Int), 0 ≤ i → (fdN met len m L i k = -1 ∧ ∀ j, i ≤ j → j < i + k → ¬ (met j = m ∧ len j = L)) ∨ (i ≤ fdN met len m L i k ∧ fdN met len m L i k < i + k)
  | 0, i, h => Or.inl ⟨rfl, fun j a b => by have b' : j < i + 0 := b; omega⟩
  | k + 1, i, h => by
    have ih := fdN_b met len m L k (i + 1) (by omega)
    have e : fdN met len m L i (k + 1) = if met i = m ∧ len i = L then i else fdN met len m L (i + 1) k := rfl
    rw [e]
    by_cases q : met i = m ∧ len i = L
    · rw [if_pos q]
      exact Or.inr ⟨by omega, by omega⟩
    · rw [if_neg q]
      rcases ih with ih | ih
      · refine Or.inl ⟨ih.1, fun j a b => ?_⟩
        by_cases y : j = i
        · rw [y]; exact q
        · exact ih.2 j (by omega) (by omega)
      · exact Or.inr ⟨by omega, by omega⟩
section KLM
variable {K : Nat × Nat} {M : AI} {g : Int → Int} {n : Int}
theorem m_takesE (lo hi : Int) (hl : (-1000 ≤ lo ∧ lo ≤ 1000) ∧ -1000 ≤ hi ∧ hi ≤ 1000) (h : M 0 26 ≠ 0) (hb : 0 ≤ M 0 26 ∧ M 0 26 ≤ 5) (h24 : 0 ≤ M 0 24 ∧ M 0 24 ≤ 4) (h25 : M 0 24 = 2 → 0 ≤ M 0 25 ∧ M 0 25 ≤ 999) : fX7_takes 0 (ii lo) (ii hi) (NW K (mg M g)) = some (Sum.inl (some (Value.int (ii (lo)))), NW K (mg M g)) := by
  rw [fX7_takes, nV, m_lookE lo hi hl h hb h24 h25, nC, q_I, nV, m_goesN h hb, nC, q_V]
theorem m_54E (m L t : Int) {M0 : AI} (hf : fX7_failsIf 0 (ii t) (ii 3) (NW K (mg M0 g)) = some (Sum.inl none, NW K (mg M g))) (h : M 0 26 ≠ 0) (hb : 0 ≤ M 0 26 ∧ M 0 26 ≤ 5) (h24 : 0 ≤ M 0 24 ∧ M 0 24 ≤ 4) (h25 : M 0 24 = 2 → 0 ≤ M 0 25 ∧ M 0 25 ≤ 999) : fX7_kindLine_54 0 (ii m) (ii L) 0 (ii t) (NW K (mg M0 g)) = some (Sum.inl none, NW K (mg M g)) := by
  rw [fX7_kindLine_54, il0, il3, il99, nV, hf, nC, q_V, nV, m_goesN h hb, nC, q_V, nV, m_takesE 0 99 (by omega) h hb h24 h25, nC, q_I, nI26, mg_0, if_neg (by rw [ii_eq _ _ (by omega)]; exact h)]
theorem m_15E (m t L : Int) {M0 M1 M2 : AI} (hf : fX7_failsIf 0 (ii t) (ii 4) (NW K (mg M0 g)) = some (Sum.inl none, NW K (mg M1 g))) (hg : fX7_goesOn 0 (NW K (mg M1 g)) = some (Sum.inl none, NW K (mg M2 g))) (hl : fX7_looks 0 (ii 1) (ii 99) (NW K (mg M2 g)) = some (Sum.inl (some (Value.int (ii (L)))), NW K (mg M g))) (h : M 0 26 ≠ 0) (hb : 0 ≤ M 0 26 ∧ M 0 26 ≤ 5) (h24 : 0 ≤ M 0 24 ∧ M 0 24 ≤ 4) (h25 : M 0 24 = 2 → 0 ≤ M 0 25 ∧ M 0 25 ≤ 999) : fX7_kindLine_15 0 (ii m) 0 (ii t) (NW K (mg M0 g)) = some (Sum.inl none, NW K (mg M g)) := by
  rw [fX7_kindLine_15, il0, il1, il4, il99, nV, hf, nC, q_V, nV, hg, nC, q_V, nV, hl, nC, q_I, nI26, mg_0, if_neg (by rw [ii_eq _ _ (by omega)]; exact h), fX7_kindLine_53, il0]
  exact m_54E m L 0 (m_ifN 3) h hb h24 h25
end KLM
section KLP
variable {K : Nat × Nat} {c : CC} {A A' : AI} {J : JI} {M M' : AI} {g g' : Int → Int} {n : Int} {sp : Nat}
theorem FAr.fl (h : FAr A A') : FL sp A A' := fun b z p _ _ _ => h b z (by omega)
theorem FMr.fp (h : FMr M M') : FP M M' := ⟨fun z _ q _ => h.1 z (by omega), fun b z p _ => h.2 b z p⟩
theorem LdS.fr (h : LdS A J M g sp) (hsp : sp = 377 ∨ sp = 381) (hA : FAr A A') (hM : FMr M M') : LdS A' J M' g sp := by
  obtain ⟨hS, hP, hR, hG, hp, h5⟩ := h
  have e0 : ∀ z, 2 ≤ z → z ≤ 9 → M' 0 z = M 0 z := fun z a b => hM.1 z (by omega)
  have e1 : M' 1 = M 1 := funext fun z => hM.2 1 z (by omega)
  have e2 : M' 2 = M 2 := funext fun z => hM.2 2 z (by omega)
  refine ⟨hS.at e0 e1 e2, (PR_frm hP (fun b z hb => hA b z (by omega))).at e0 e1 e2, ?_, hG.at e0 e2, hp, h5⟩
  rw [e2]
  exact SR_frame hR hG.1.1 (fun b z hb => hA b z (by unfold inS at hb; omega)) (fun _ _ _ => rfl)
theorem TD.fr (h : TD A M g) (hA : FAr A A') (hM : FMr M M') : TD A' M' g := by
  have e : A' (1 + 2) = A (1 + 2) := funext fun z => hA _ z (by omega)
  unfold TD at h ⊢
  rw [e, hM.1 32 (by omega)]
  exact h
abbrev LdP (K : Nat × Nat) (c : CC) (A : AI) (J : JI) (M : AI) (n : Int) (sp : Nat) (X Y : Option AR) : Prop := ∃ (A' M' : AI) (g' : Int → Int), X = some (Sum.inl none, CW c A' J) ∧ Y = some (Sum.inl none, NW K (mg M' g')) ∧ RT A' M' n ∧ FL sp A A' ∧ FP M M' ∧ (M' 0 26 = 0 → (LdS A' J M' g' sp ∧ TD A' M' g') ∧ M 0 23 ≤ M' 0 23)
theorem p_kind (K : Nat × Nat) (J : JI) (hRd : isReader c 1) (hS : isState c 338) (hPl : isPlan c sp) (hsp : sp = 377 ∨ sp = 381) (h : RT A M n) (h0 : M 0 26 = 0) (h24 : M 0 24 = 1) (hL : LdS A J M g sp) (hT : TD A M g) (m : Int) (hm : 0 ≤ m ∧ m ≤ 1) : LdP K c A J M n sp (fX2_readKind 1 (ii m) sp 338 (CW c A J)) (fX7_kindLine 0 (ii m) (NW K (mg M g))) := by
  have hM := hL.1
  have hP := hL.2.1
  have hn9 := hM.1.2.2.2.2.2.2.2
  have x7 : A sp 7 = M 0 9 := hP.1.2.2.2.2.2.2.2
  have hbd := h.2.2.1.2.2.1
  by_cases q9 : M 0 9 = 10
  · have e3 : A 1 3 = 0 := by have := h.2.2.1; omega
    obtain ⟨z3, z4, z5, z6⟩ := RT_fail h h0 4 (A 1 7) (by omega) (h.2.2.2.2.2 h0).1.2
    have hf := c_fail (J := J) hRd 4 (A 1 7) e3
    have x10 : A sp 7 = 10 := by omega
    refine ⟨flA A 4 (A 1 7), flM M 4, g, ?_, ?_, z3, z4.fl, z5.fp, fun q => by omega⟩
    · simp (disch := first | assumption | omega) only [fX2_readKind, rwI1, rwS1, rwI2, rwS2, rwI4, rwS4, rwI5, rwS5, rwI7, rwS7, rwI8, rwS8, rwI9, rwS9, rwR0, rwR3, rwR6, rwA1, rwU1, rwA3, rwU3, rwV, rwJ, rwUJ, plI0, plS0, plI1, plS1, plI2, plS2, plI3, plS3, plI4, plS4, plI5, plS5, plI6, plS6, plI7, plS7, plR8, plR9, plR10, plA1, plU1, plA2, plU2, plA3, plU3, plV, stI2, stS2, stI3, stS3, stI4, stS4, stI5, stS5, stI6, stS6, stI7, stS7, stR0, stR1, stA2, stU2, stV, stRow, svI5, svS5, svI6, svS6, svI7, svS7, svR0, svR1, svR2, svR3, svR4, svA13, svU13, svA14, svU14, svA15, svU15, svA16, svU16, svV, svRow, svF, svUF, hiI1, hiS1, hiI2, hiS2, hiR0, hiV, hiRow, rdI2, rdS2, rdI3, rdS3, rdI4, rdS4, rdI5, rdS5, rdI6, rdS6, rdI7, rdS7, rdI8, rdS8, rdR0, rdR1, rdA1, rdU1, rdA2, rdU2, rdV, k_C, ↓reduceIte, tr_lt, fa_lt, tr_le, fa_le, tr_eq, fa_eq, and_true, true_and, and_false, false_and, il0, il1, il2, il3, il4, il5, il6, il7, il8, il9, il10, il11, il12, il15, il16, il20, il24, il31, il32, il44, il45, il48, il50, il57, il58, il59, il63, il91, il93, il97, il99, il100, il109, il113, il119, il120, il122, il200, il255, il480, il500, il501, il512, il999, il4112, il41120, il1000000, il1000003, ii_add, ii_sub, ii_mul, ii_neg, ii_le, ii_lt, ii_eq, ii_div, q_I, q_V, q_R, lt_q, rZ_q, md_M, md_16, md_4, md_8, md_10, if_true, if_false, if_pos, if_neg, x10, hf]
    · rw [fX7_kindLine, nI9, mg_0, q9, il10, if_pos rfl, il1]
      have b24 := z3.2.2.2.2.1.2.2
      exact m_15E m 1 1 (m_if 4 (m_fails 4 h0)) (m_goesN (by omega) (by omega)) (m_lookE 1 99 (by omega) (by omega) (by omega) b24.1 b24.2) (by omega) (by omega) b24.1 b24.2
  · have hk15 : fX7_kindLine 0 (ii m) (NW K (mg M g)) = fX7_kindLine_15 0 (ii m) 0 (ii 0) (NW K (mg M g)) := by
      rw [fX7_kindLine, nI9, mg_0, il10, if_neg (by rw [ii_eq _ _ (by omega)]; exact q9), il0]
    obtain ⟨A1, M1, a1, b1, r1, f1, k1, o1, p1⟩ := p_adv (c := c) K J hRd h h0 ((h.2.2.2.2.2 h0).2 (by omega)).1.1
    have hlt := ((h.2.2.2.2.2 h0).2 (by omega)).1.2
    have hL1 := hL.fr hsp f1 k1
    have hT1 := hT.fr f1 k1
    have e9 : M1 0 9 = M 0 9 := k1.1 9 (by omega)
    have e7 : A1 sp 7 = M1 0 9 := hL1.2.1.1.2.2.2.2.2.2.2
    have g1 := m_goes (K := K) (g := g) h0 (b1 g)
    have hv3 := (r1.2.2.2.2.2 o1).1.2
    rcases p_look (c := c) K J g hRd r1 1 99 (by omega) with ⟨A2, M2, a2, b2, r2, f2, k2, o2⟩ | ⟨-, L, hLb, b2, r7, -, -, A2, M2, a2, b3, r2, f2, k2, o2, p2⟩
    · have hb2 := r2.2.2.1
      have b24 := r2.2.2.2.2.1.2.2
      have hL2 := hL1.fr hsp f2 k2
      have e92 : M2 0 9 = M 0 9 := by rw [k2.1 9 (by omega)]; exact e9
      have hfi := c_find (c := c) (A := A2) (J := J) hPl (M2 0 9) m (-1) (M2 1) (M2 2) (by omega) hL2.2.1.1.2.2.2.2.2.2.2 (fun k a b => ⟨hL2.2.1.2.1 k a b, hL2.1.2.1 k a (by omega), hL2.1.2.2.1 k a (by omega)⟩) hm (by omega)
      have hfb := fdN_b (M2 1) (M2 2) m (-1) (M2 0 9).toNat 0 (by omega)
      have hfl := c_failN (J := J) hRd 3 (A1 1 7) (A := A2) (by omega) (by omega)
      have htn := c_tnE (J := J) hRd (A := A2) 0 99 (by omega) (by omega) r2.2.2.2.1.2.1
      refine ⟨A2, M2, g, ?_, ?_, r2, f1.fl.trans f2.fl, k1.fp.trans k2.fp, fun q => absurd q o2⟩
      · generalize fdN (M2 1) (M2 2) m (-1) 0 (M2 0 9).toNat = w at *
        by_cases q : w = -1
        · simp (disch := first | assumption | omega) only [fX2_readKind, fX2_readKind_56, rwI1, rwS1, rwI2, rwS2, rwI4, rwS4, rwI5, rwS5, rwI7, rwS7, rwI8, rwS8, rwI9, rwS9, rwR0, rwR3, rwR6, rwA1, rwU1, rwA3, rwU3, rwV, rwJ, rwUJ, plI0, plS0, plI1, plS1, plI2, plS2, plI3, plS3, plI4, plS4, plI5, plS5, plI6, plS6, plI7, plS7, plR8, plR9, plR10, plA1, plU1, plA2, plU2, plA3, plU3, plV, stI2, stS2, stI3, stS3, stI4, stS4, stI5, stS5, stI6, stS6, stI7, stS7, stR0, stR1, stA2, stU2, stV, stRow, svI5, svS5, svI6, svS6, svI7, svS7, svR0, svR1, svR2, svR3, svR4, svA13, svU13, svA14, svU14, svA15, svU15, svA16, svU16, svV, svRow, svF, svUF, hiI1, hiS1, hiI2, hiS2, hiR0, hiV, hiRow, rdI2, rdS2, rdI3, rdS3, rdI4, rdS4, rdI5, rdS5, rdI6, rdS6, rdI7, rdS7, rdI8, rdS8, rdR0, rdR1, rdA1, rdU1, rdA2, rdU2, rdV, k_C, ↓reduceIte, tr_lt, fa_lt, tr_le, fa_le, tr_eq, fa_eq, and_true, true_and, and_false, false_and, il0, il1, il2, il3, il4, il5, il6, il7, il8, il9, il10, il11, il12, il15, il16, il20, il24, il31, il32, il44, il45, il48, il50, il57, il58, il59, il63, il91, il93, il97, il99, il100, il109, il113, il119, il120, il122, il200, il255, il480, il500, il501, il512, il999, il4112, il41120, il1000000, il1000003, ii_add, ii_sub, ii_mul, ii_neg, ii_le, ii_lt, ii_eq, ii_div, q_I, q_V, q_R, lt_q, rZ_q, md_M, md_16, md_4, md_8, md_10, if_true, if_false, if_pos, if_neg, x7, a1, a2, hfi, htn]
        · simp (disch := first | assumption | omega) only [fX2_readKind, fX2_readKind_56, rwI1, rwS1, rwI2, rwS2, rwI4, rwS4, rwI5, rwS5, rwI7, rwS7, rwI8, rwS8, rwI9, rwS9, rwR0, rwR3, rwR6, rwA1, rwU1, rwA3, rwU3, rwV, rwJ, rwUJ, plI0, plS0, plI1, plS1, plI2, plS2, plI3, plS3, plI4, plS4, plI5, plS5, plI6, plS6, plI7, plS7, plR8, plR9, plR10, plA1, plU1, plA2, plU2, plA3, plU3, plV, stI2, stS2, stI3, stS3, stI4, stS4, stI5, stS5, stI6, stS6, stI7, stS7, stR0, stR1, stA2, stU2, stV, stRow, svI5, svS5, svI6, svS6, svI7, svS7, svR0, svR1, svR2, svR3, svR4, svA13, svU13, svA14, svU14, svA15, svU15, svA16, svU16, svV, svRow, svF, svUF, hiI1, hiS1, hiI2, hiS2, hiR0, hiV, hiRow, rdI2, rdS2, rdI3, rdS3, rdI4, rdS4, rdI5, rdS5, rdI6, rdS6, rdI7, rdS7, rdI8, rdS8, rdR0, rdR1, rdA1, rdU1, rdA2, rdU2, rdV, k_C, ↓reduceIte, tr_lt, fa_lt, tr_le, fa_le, tr_eq, fa_eq, and_true, true_and, and_false, false_and, il0, il1, il2, il3, il4, il5, il6, il7, il8, il9, il10, il11, il12, il15, il16, il20, il24, il31, il32, il44, il45, il48, il50, il57, il58, il59, il63, il91, il93, il97, il99, il100, il109, il113, il119, il120, il122, il200, il255, il480, il500, il501, il512, il999, il4112, il41120, il1000000, il1000003, ii_add, ii_sub, ii_mul, ii_neg, ii_le, ii_lt, ii_eq, ii_div, q_I, q_V, q_R, lt_q, rZ_q, md_M, md_16, md_4, md_8, md_10, if_true, if_false, if_pos, if_neg, x7, a1, a2, hfi, htn, hfl]
      · rw [hk15]
        exact m_15E m 0 1 (m_ifN 4) g1 b2 o2 (by omega) b24.1 b24.2
    · have hL2 := hL1.fr hsp f2 k2
      have hT2 := hT1.fr f2 k2
      have e92 : M2 0 9 = M 0 9 := by rw [k2.1 9 (by omega)]; exact e9
      have m1e : M2 1 = M1 1 := funext fun z => k2.2 1 z (by omega)
      have m2e : M2 2 = M1 2 := funext fun z => k2.2 2 z (by omega)
      have hfi := c_find (c := c) (A := A2) (J := J) hPl (M2 0 9) m L (M2 1) (M2 2) (by omega) hL2.2.1.1.2.2.2.2.2.2.2 (fun k a b => ⟨hL2.2.1.2.1 k a b, hL2.1.2.1 k a (by omega), hL2.1.2.2.1 k a (by omega)⟩) hm (by omega)
      have hof := e_ofLength (K := K) (A := M1) (g := g) hL1.1 m L hm (by omega)
      rw [← m1e, ← m2e, show M1 0 9 = M2 0 9 by omega] at hof
      have hfb := fdN_b (M2 1) (M2 2) m L (M2 0 9).toNat 0 (by omega)
      have hk : fX7_kindLine 0 (ii m) (NW K (mg M g)) = fX7_kindLine_54 0 (ii m) (ii L) 0 (ii (if fdN (M2 1) (M2 2) m L 0 (M2 0 9).toNat = -1 then 0 else 1)) (NW K (mg M1 g)) := by
        rw [hk15, fX7_kindLine_15, il0, il1, il4, il99, nV, m_ifN, nC, q_V, nV, g1, nC, q_V, nV, b2, nC, q_I, nI26, mg_0, if_pos (by rw [o1]), nV, hof, nC, q_I, ii_neg]
        by_cases q : fdN (M2 1) (M2 2) m L 0 (M2 0 9).toNat = -1
        · rw [if_pos (by rw [q]), fX7_kindLine_53, if_pos q, il0]
        · rw [if_neg (by rw [ii_eq _ _ (by omega)]; exact q), if_neg q]
      by_cases q : fdN (M2 1) (M2 2) m L 0 (M2 0 9).toNat = -1
      · rw [q] at hfi
        have hno := (hfb.resolve_right (by omega)).2
        rw [if_pos q] at hk
        have g2 := m_goes (K := K) (g := g) o1 (b3 g)
        obtain ⟨A3, M3, vc, vm, a4, b4, r3, f3, k3, -, i3⟩ := p_num (c := c) K J g hRd r2 0 99 (by omega)
        have hb3 := r3.2.2.1
        have hkl : fX2_readKind 1 (ii m) sp 338 (CW c A J) = fX2_readKind_56 1 (ii m) sp 338 (ii L) (CW c A2 J) := by
          simp (disch := first | assumption | omega) only [fX2_readKind, rwI1, rwS1, rwI2, rwS2, rwI4, rwS4, rwI5, rwS5, rwI7, rwS7, rwI8, rwS8, rwI9, rwS9, rwR0, rwR3, rwR6, rwA1, rwU1, rwA3, rwU3, rwV, rwJ, rwUJ, plI0, plS0, plI1, plS1, plI2, plS2, plI3, plS3, plI4, plS4, plI5, plS5, plI6, plS6, plI7, plS7, plR8, plR9, plR10, plA1, plU1, plA2, plU2, plA3, plU3, plV, stI2, stS2, stI3, stS3, stI4, stS4, stI5, stS5, stI6, stS6, stI7, stS7, stR0, stR1, stA2, stU2, stV, stRow, svI5, svS5, svI6, svS6, svI7, svS7, svR0, svR1, svR2, svR3, svR4, svA13, svU13, svA14, svU14, svA15, svU15, svA16, svU16, svV, svRow, svF, svUF, hiI1, hiS1, hiI2, hiS2, hiR0, hiV, hiRow, rdI2, rdS2, rdI3, rdS3, rdI4, rdS4, rdI5, rdS5, rdI6, rdS6, rdI7, rdS7, rdI8, rdS8, rdR0, rdR1, rdA1, rdU1, rdA2, rdU2, rdV, k_C, ↓reduceIte, tr_lt, fa_lt, tr_le, fa_le, tr_eq, fa_eq, and_true, true_and, and_false, false_and, il0, il1, il2, il3, il4, il5, il6, il7, il8, il9, il10, il11, il12, il15, il16, il20, il24, il31, il32, il44, il45, il48, il50, il57, il58, il59, il63, il91, il93, il97, il99, il100, il109, il113, il119, il120, il122, il200, il255, il480, il500, il501, il512, il999, il4112, il41120, il1000000, il1000003, ii_add, ii_sub, ii_mul, ii_neg, ii_le, ii_lt, ii_eq, ii_div, q_I, q_V, q_R, lt_q, rZ_q, md_M, md_16, md_4, md_8, md_10, if_true, if_false, if_pos, if_neg, x7, a1, a2, hfi]
        by_cases o3 : M3 0 26 = 0
        · obtain ⟨-, hv, hvb, p3⟩ := i3 o3
          have hL3 := hL2.fr hsp f3 k3
          have hT3 := hT2.fr f3 k3
          have e93 : M3 0 9 = M 0 9 := by rw [k3.1 9 (by omega)]; exact e92
          have e73 : A3 sp 7 = M 0 9 := by rw [← e93]; exact hL3.2.1.1.2.2.2.2.2.2.2
          have m1f : M3 1 = M2 1 := funext fun z => k3.2 1 z (by omega)
          have m2f : M3 2 = M2 2 := funext fun z => k3.2 2 z (by omega)
          have e3 : A3 1 3 = 0 := by omega
          have up1 : up A3 (338 + 2) (M 0 9) vc (sp + 1) = A3 (sp + 1) := funext fun z => up_n _ _ _ _ _ _ (by omega)
          have up2 : up A3 (338 + 2) (M 0 9) vc (sp + 2) = A3 (sp + 2) := funext fun z => up_n _ _ _ _ _ _ (by omega)
          have up3 : up A3 (338 + 2) (M 0 9) vc (sp + 3) = A3 (sp + 3) := funext fun z => up_n _ _ _ _ _ _ (by omega)
          have up7 : up A3 (338 + 2) (M 0 9) vc sp 7 = M 0 9 := by rw [up_n _ _ _ _ _ _ (by omega)]; exact e73
          have hpk := hL3.2.1.2
          rw [e93] at hpk
          obtain ⟨A4, a5, oo, n7, nk, f4⟩ := c_addKind (c := c) (A := up A3 (338 + 2) (M 0 9) vc) (J := J) (n := M 0 9) hPl (by omega) up7 m L ⟨hm, by omega⟩
            (fun k a b => by rw [up1, up2, (hpk.1 k a b).1, (hpk.1 k a b).2]; exact ⟨hL3.1.2.1 k a (by omega), hL3.1.2.2.1 k a (by omega)⟩)
            (fun k a b => by rw [up1, up2, (hpk.1 k a b).1, (hpk.1 k a b).2, m1f, m2f]; exact hno k a (by omega))
            (by rw [up1, up2, up3]; exact ord_cg hpk.2 (fun k a b => hpk.1 k a b))
          have f5 : ∀ (b : Nat) (z : Int), ¬ (b = sp ∧ z = 7) → ¬ (b = sp + 1 ∧ z = M 0 9) → ¬ (b = sp + 2 ∧ z = M 0 9) → b ≠ sp + 3 → ¬ (b = 338 + 2 ∧ z = M 0 9) → A4 b z = A3 b z := fun b z p q r s t => by
            rw [f4 b z p q r s, up_n _ _ _ _ _ _ t]
          have i342 : inS 338 (338 + 2) := by unfold inS; omega
          have hLS := LdS.kind (A' := A4) (M' := up (up (up M3 1 (M 0 9) m) 2 (M 0 9) L) 0 9 (M 0 9 + 1)) hL3 hsp (M 0 9) m L vm (by omega) ⟨hm, hLb, hvb⟩ (up_s _ _ _ _) (fun z a b => by rw [up_n _ _ _ _ _ _ (by omega), up_n _ _ _ _ _ _ (by omega), up_n _ _ _ _ _ _ (by omega)])
            (fun k a b => by
              rw [up_n _ _ _ _ _ _ (by omega), up_n _ _ _ _ _ _ (by omega)]
              by_cases y : k = M 0 9
              · rw [if_pos y, y, up_s]
              · rw [if_neg y, up_n _ _ _ _ _ _ (by omega)])
            (fun k a b => by
              rw [up_n _ _ _ _ _ _ (by omega)]
              by_cases y : k = M 0 9
              · rw [if_pos y, y, up_s]
              · rw [if_neg y, up_n _ _ _ _ _ _ (by omega), up_n _ _ _ _ _ _ (by omega)])
            (fun b z y => f5 b z (by unfold inS at y; omega) (by unfold inS at y; omega) (by unfold inS at y; omega) (by unfold inS at y; omega) (by omega))
            (by rw [f4 _ _ (by omega) (by omega) (by omega) (by omega), up_s]; exact hv) oo n7 nk
            (fun k a b => ⟨f5 _ _ (by omega) (by omega) (by omega) (by omega) (by omega), f5 _ _ (by omega) (by omega) (by omega) (by omega) (by omega)⟩)
          refine ⟨A4, up (up (up M3 1 (M 0 9) m) 2 (M 0 9) L) 0 9 (M 0 9 + 1), gu g (6 + M 0 9) vm, ?_, ?_, r3.fr (fun b z y => f5 b z (by omega) (by omega) (by omega) (by omega) (by omega)) (fun z a b => by rw [up_n _ _ _ _ _ _ (by omega), up_n _ _ _ _ _ _ (by omega), up_n _ _ _ _ _ _ (by omega)]) (funext fun z => by rw [up_n _ _ _ _ _ _ (by omega), up_n _ _ _ _ _ _ (by omega), up_n _ _ _ _ _ _ (by omega)]), ?_, ?_, fun _ => ⟨⟨hLS, ?_⟩, ?_⟩⟩
          · rw [hkl]
            simp (disch := first | assumption | omega) only [fX2_readKind_56, rwI1, rwS1, rwI2, rwS2, rwI4, rwS4, rwI5, rwS5, rwI7, rwS7, rwI8, rwS8, rwI9, rwS9, rwR0, rwR3, rwR6, rwA1, rwU1, rwA3, rwU3, rwV, rwJ, rwUJ, plI0, plS0, plI1, plS1, plI2, plS2, plI3, plS3, plI4, plS4, plI5, plS5, plI6, plS6, plI7, plS7, plR8, plR9, plR10, plA1, plU1, plA2, plU2, plA3, plU3, plV, stI2, stS2, stI3, stS3, stI4, stS4, stI5, stS5, stI6, stS6, stI7, stS7, stR0, stR1, stA2, stU2, stV, stRow, svI5, svS5, svI6, svS6, svI7, svS7, svR0, svR1, svR2, svR3, svR4, svA13, svU13, svA14, svU14, svA15, svU15, svA16, svU16, svV, svRow, svF, svUF, hiI1, hiS1, hiI2, hiS2, hiR0, hiV, hiRow, rdI2, rdS2, rdI3, rdS3, rdI4, rdS4, rdI5, rdS5, rdI6, rdS6, rdI7, rdS7, rdI8, rdS8, rdR0, rdR1, rdA1, rdU1, rdA2, rdU2, rdV, k_C, ↓reduceIte, tr_lt, fa_lt, tr_le, fa_le, tr_eq, fa_eq, and_true, true_and, and_false, false_and, il0, il1, il2, il3, il4, il5, il6, il7, il8, il9, il10, il11, il12, il15, il16, il20, il24, il31, il32, il44, il45, il48, il50, il57, il58, il59, il63, il91, il93, il97, il99, il100, il109, il113, il119, il120, il122, il200, il255, il480, il500, il501, il512, il999, il4112, il41120, il1000000, il1000003, ii_add, ii_sub, ii_mul, ii_neg, ii_le, ii_lt, ii_eq, ii_div, q_I, q_V, q_R, lt_q, rZ_q, md_M, md_16, md_4, md_8, md_10, if_true, if_false, if_pos, if_neg, a4, e3, e73, a5]
          · rw [hk, fX7_kindLine_54, il0, il3, il99, nV, m_ifN, nC, q_V, nV, g2, nC, q_V, nV, b4, nC, q_I, nI26, mg_0, o3, if_pos rfl]
            simp (disch := first | assumption | omega) only [nR1, nA1, nU1, nR2, nA2, nU2, nR3, nA3, nU3, nR4, nA4, nU4, nR5, nA5, nU5, nR6, nA6, nU6, nR7, nA7, nU7, nR8, nA8, nU8, nR9, nA9, nU9, nR10, nA10, nU10, nR11, nA11, nU11, nR12, nA12, nU12, nR13, nA13, nU13, nR14, nA14, nU14, nR15, nA15, nU15, nR16, nA16, nU16, nI0, nS0, nI1, nS1, nI2, nS2, nI3, nS3, nI4, nS4, nI5, nS5, nI6, nS6, nI7, nS7, nI8, nS8, nI9, nS9, nI15, nS15, nI18, nS18, nI19, nS19, nI20, nS20, nI21, nS21, nI22, nS22, nI23, nS23, nI24, nS24, nI25, nS25, nI26, nS26, nI27, nS27, nI32, nS32, nI36, nS36, nI37, nS37, nI40, nS40, nSZ1, nV, nC, ↓reduceIte, tr_lt, fa_lt, tr_le, fa_le, tr_eq, fa_eq, and_true, true_and, and_false, false_and, il0, il1, il2, il3, il4, il5, il6, il7, il8, il9, il10, il11, il12, il15, il16, il20, il24, il31, il32, il44, il45, il48, il50, il57, il58, il59, il63, il91, il93, il97, il99, il100, il109, il113, il119, il120, il122, il200, il255, il480, il500, il501, il512, il999, il4112, il41120, il1000000, il1000003, ii_add, ii_sub, ii_mul, ii_neg, ii_le, ii_lt, ii_eq, ii_div, q_I, q_V, q_R, lt_q, rZ_q, md_M, md_16, md_4, md_8, md_10, if_true, if_false, if_pos, if_neg, mg_3, mg_0, mg_1, mg_2, mg_k, mg_up3, mg_upk, e93]
          · exact (f1.fl.trans (f2.fl.trans f3.fl)).trans (fun b z p q r s => f5 b z (by omega) (by omega) (by omega) (by omega) (fun y => s (by rw [y.1]; exact i342)))
          · refine (k1.fp.trans (k2.fp.trans k3.fp)).trans ⟨fun z p q r => ?_, fun b z p q => ?_⟩
            · rw [up_n _ _ _ _ _ _ (by omega), up_n _ _ _ _ _ _ (by omega), up_n _ _ _ _ _ _ (by omega)]
            · rw [up_n _ _ _ _ _ _ (by omega), up_n _ _ _ _ _ _ (by omega), up_n _ _ _ _ _ _ (by omega)]
          · have e : A4 (1 + 2) = A3 (1 + 2) := funext fun z => f5 _ _ (by omega) (by omega) (by omega) (by omega) (by omega)
            refine ⟨?_, fun r a b => ?_⟩
            · rw [up_n _ _ _ _ _ _ (by omega), up_n _ _ _ _ _ _ (by omega), up_n _ _ _ _ _ _ (by omega)]; exact hT3.1
            · rw [e, cel_gu _ _ _ _ _ (by omega), up_n _ _ _ _ _ _ (by omega), up_n _ _ _ _ _ _ (by omega), up_n _ _ _ _ _ _ (by omega)]
              exact hT3.2 r a b
          · rw [up_n _ _ _ _ _ _ (by omega), up_n _ _ _ _ _ _ (by omega), up_n _ _ _ _ _ _ (by omega)]
            omega
        · have e3 : A3 1 3 ≠ 0 := by omega
          refine ⟨A3, M3, g, ?_, ?_, r3, f1.fl.trans (f2.fl.trans f3.fl), k1.fp.trans (k2.fp.trans k3.fp), fun y => absurd y o3⟩
          · rw [hkl]
            simp (disch := first | assumption | omega) only [fX2_readKind_56, rwI1, rwS1, rwI2, rwS2, rwI4, rwS4, rwI5, rwS5, rwI7, rwS7, rwI8, rwS8, rwI9, rwS9, rwR0, rwR3, rwR6, rwA1, rwU1, rwA3, rwU3, rwV, rwJ, rwUJ, plI0, plS0, plI1, plS1, plI2, plS2, plI3, plS3, plI4, plS4, plI5, plS5, plI6, plS6, plI7, plS7, plR8, plR9, plR10, plA1, plU1, plA2, plU2, plA3, plU3, plV, stI2, stS2, stI3, stS3, stI4, stS4, stI5, stS5, stI6, stS6, stI7, stS7, stR0, stR1, stA2, stU2, stV, stRow, svI5, svS5, svI6, svS6, svI7, svS7, svR0, svR1, svR2, svR3, svR4, svA13, svU13, svA14, svU14, svA15, svU15, svA16, svU16, svV, svRow, svF, svUF, hiI1, hiS1, hiI2, hiS2, hiR0, hiV, hiRow, rdI2, rdS2, rdI3, rdS3, rdI4, rdS4, rdI5, rdS5, rdI6, rdS6, rdI7, rdS7, rdI8, rdS8, rdR0, rdR1, rdA1, rdU1, rdA2, rdU2, rdV, k_C, ↓reduceIte, tr_lt, fa_lt, tr_le, fa_le, tr_eq, fa_eq, and_true, true_and, and_false, false_and, il0, il1, il2, il3, il4, il5, il6, il7, il8, il9, il10, il11, il12, il15, il16, il20, il24, il31, il32, il44, il45, il48, il50, il57, il58, il59, il63, il91, il93, il97, il99, il100, il109, il113, il119, il120, il122, il200, il255, il480, il500, il501, il512, il999, il4112, il41120, il1000000, il1000003, ii_add, ii_sub, ii_mul, ii_neg, ii_le, ii_lt, ii_eq, ii_div, q_I, q_V, q_R, lt_q, rZ_q, md_M, md_16, md_4, md_8, md_10, if_true, if_false, if_pos, if_neg, a4]
          · rw [hk, fX7_kindLine_54, il0, il3, il99, nV, m_ifN, nC, q_V, nV, g2, nC, q_V, nV, b4, nC, q_I, nI26, mg_0, if_neg (by rw [ii_eq _ _ (by omega)]; exact o3)]
      · rw [if_neg q] at hk
        obtain ⟨z3, z4, z5, z6⟩ := RT_fail2 r1 o1 r2 f2 k2 3 (A1 1 7) (by omega) hv3
        have b24 := z3.2.2.2.2.1.2.2
        have hb2 := r2.2.2.1
        have hfl := c_fail (J := J) hRd 3 (A1 1 7) (A := A2) (by omega)
        have e3 := flA_3 (A := A2) 3 (A1 1 7)
        have htn := c_tnE (J := J) hRd (A := flA A2 3 (A1 1 7)) 0 99 (by omega) (by omega) z3.2.2.2.1.2.1
        refine ⟨flA A2 3 (A1 1 7), flM M1 3, g, ?_, ?_, z3, f1.fl.trans z4.fl, k1.fp.trans z5.fp, fun y => by omega⟩
        · generalize fdN (M2 1) (M2 2) m L 0 (M2 0 9).toNat = w at *
          simp (disch := first | assumption | omega) only [fX2_readKind, fX2_readKind_56, rwI1, rwS1, rwI2, rwS2, rwI4, rwS4, rwI5, rwS5, rwI7, rwS7, rwI8, rwS8, rwI9, rwS9, rwR0, rwR3, rwR6, rwA1, rwU1, rwA3, rwU3, rwV, rwJ, rwUJ, plI0, plS0, plI1, plS1, plI2, plS2, plI3, plS3, plI4, plS4, plI5, plS5, plI6, plS6, plI7, plS7, plR8, plR9, plR10, plA1, plU1, plA2, plU2, plA3, plU3, plV, stI2, stS2, stI3, stS3, stI4, stS4, stI5, stS5, stI6, stS6, stI7, stS7, stR0, stR1, stA2, stU2, stV, stRow, svI5, svS5, svI6, svS6, svI7, svS7, svR0, svR1, svR2, svR3, svR4, svA13, svU13, svA14, svU14, svA15, svU15, svA16, svU16, svV, svRow, svF, svUF, hiI1, hiS1, hiI2, hiS2, hiR0, hiV, hiRow, rdI2, rdS2, rdI3, rdS3, rdI4, rdS4, rdI5, rdS5, rdI6, rdS6, rdI7, rdS7, rdI8, rdS8, rdR0, rdR1, rdA1, rdU1, rdA2, rdU2, rdV, k_C, ↓reduceIte, tr_lt, fa_lt, tr_le, fa_le, tr_eq, fa_eq, and_true, true_and, and_false, false_and, il0, il1, il2, il3, il4, il5, il6, il7, il8, il9, il10, il11, il12, il15, il16, il20, il24, il31, il32, il44, il45, il48, il50, il57, il58, il59, il63, il91, il93, il97, il99, il100, il109, il113, il119, il120, il122, il200, il255, il480, il500, il501, il512, il999, il4112, il41120, il1000000, il1000003, ii_add, ii_sub, ii_mul, ii_neg, ii_le, ii_lt, ii_eq, ii_div, q_I, q_V, q_R, lt_q, rZ_q, md_M, md_16, md_4, md_8, md_10, if_true, if_false, if_pos, if_neg, x7, a1, a2, hfi, hfl, htn, e3]
        · rw [hk]
          exact m_54E m L 1 (m_if 3 (m_fails 3 o1)) (by omega) (by omega) b24.1 b24.2
end KLP
