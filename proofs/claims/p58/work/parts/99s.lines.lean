/-! THE READER: the lines, to the end -/
section LNT
variable {K : Nat × Nat} {c : CC} {A A' : AI} {J : JI} {M M' : AI} {g g' : Int → Int} {n : Int} {sp : Nat}
theorem p_line (K : Nat × Nat) (J : JI) (hRd : isReader c 1) (hS : isState c 338) (hPl : isPlan c sp) (hsp : sp = 377 ∨ sp = 381) (h : RT A M n) (h0 : M 0 26 = 0) (hL : LdS A J M g sp) (hT : TD A M g) : LdP K c A J M n sp (fX2_readLine 1 sp 338 (CW c A J)) (fX7_line 0 (NW K (mg M g))) := by
  obtain ⟨v, x1, y1, v1, v2⟩ := p_isW K J g hRd h h0 1000028 1000031 (by omega) (by decide)
  obtain ⟨u, x2, y2, u1, u2⟩ := p_isW K J g hRd h h0 1000029 1000032 (by omega) (by decide)
  obtain ⟨t, x3, y3, t1, t2⟩ := p_isW K J g hRd h h0 1000030 1000033 (by omega) (by decide)
  have w1 : wlen 1000031 = 4 := by decide
  have w2 : wlen 1000032 = 5 := by decide
  have hb := h.2.2.1
  by_cases q1 : v = 1
  · have hu : u = 0 := by
      rcases u1 with u1 | u1
      · exact u1
      · have a := (v2 q1).2
        have b := (u2 u1).2
        omega
    rw [q1] at x1 y1
    rw [hu] at y2
    obtain ⟨A', M', g', e1, e2, e3, e4, e5, e6⟩ := p_kind K J hRd hS hPl hsp h h0 (v2 q1).1 hL hT 0 (by omega)
    refine ⟨A', M', g', ?_, ?_, e3, e4, e5, e6⟩
    · rw [fX2_readLine, il0, il1, rdV hRd, x1, k_C, q_I, if_neg (by decide), rdV hRd, e1, k_C, q_V]
    · rw [fX7_line, il0, nV, y1, nC, q_I, if_neg (by decide), fX7_line_18, nV, y2, nC, q_I, nV, e2, nC, q_V]
  · have v0 : v = 0 := by omega
    rw [v0] at x1 y1
    by_cases q2 : u = 1
    · rw [q2] at x2 y2
      obtain ⟨A', M', g', e1, e2, e3, e4, e5, e6⟩ := p_kind K J hRd hS hPl hsp h h0 (u2 q2).1 hL hT 1 (by omega)
      refine ⟨A', M', g', ?_, ?_, e3, e4, e5, e6⟩
      · rw [fX2_readLine, il0, il1, rdV hRd, x1, k_C, q_I, if_pos rfl, rdV hRd, x2, k_C, q_I, if_neg (by decide), rdV hRd, e1, k_C, q_V]
      · rw [fX7_line, il0, nV, y1, nC, q_I, if_pos rfl, nV, y2, nC, q_I, if_neg (by decide), fX7_line_18, nV, y2, nC, q_I, nV, e2, nC, q_V]
    · have u0 : u = 0 := by omega
      rw [u0] at x2 y2
      by_cases q3 : t = 1
      · rw [q3] at x3 y3
        have hr := (h.2.2.2.2.2 h0).2 (by have := (t2 q3).1; omega)
        obtain ⟨A1, M1, a1, b1, r1, f1, k1, o1, p1⟩ := p_adv (c := c) K J hRd h h0 hr.1.1
        have hlt := hr.1.2
        have g1 := m_goes (K := K) (g := g) h0 (b1 g)
        have e3 : A 1 3 = 0 := by omega
        have htw : fX2_takeWord 1 1000030 (CW c A J) = some (Sum.inl none, CW c A1 J) := by
          rw [fX2_takeWord, il0, rdV hRd, x3, k_C, q_I, if_neg (by decide), fX2_takeWord_17, rdI3 hRd, if_pos (by rw [e3]; rfl), rdV hRd, a1, k_C, q_V]
        obtain ⟨A', M', g', e1, e2, e3, e4, e5, e6⟩ := LdP.pre (sp := sp) f1.fl k1.fp (by omega) (p_row K J hRd hS hPl hsp g1 r1 o1 (hL.fr hsp f1 k1) (hT.fr f1 k1))
        refine ⟨A', M', g', ?_, ?_, e3, e4, e5, e6⟩
        · rw [fX2_readLine, il0, il1, rdV hRd, x1, k_C, q_I, if_pos rfl, rdV hRd, x2, k_C, q_I, if_pos rfl, rdV hRd, htw, k_C, q_V, rdV hRd, e1, k_C, q_V]
        · rw [fX7_line, il0, nV, y1, nC, q_I, if_pos rfl, nV, y2, nC, q_I, if_pos rfl, nV, y3, nC, q_I, if_neg (by decide), nV, e2, nC, q_V]
      · have t0 : t = 0 := by omega
        rw [t0] at x3 y3
        obtain ⟨z3, z4, z5, z6⟩ := RT_fail h h0 1 (A 1 7) (by omega) (h.2.2.2.2.2 h0).1.2
        have e3 := flA_3 (A := A) 1 (A 1 7)
        have hf := c_fail (J := J) hRd 1 (A 1 7) (A := A) (by omega)
        have htw : fX2_takeWord 1 1000030 (CW c A J) = some (Sum.inl none, CW c (flA A 1 (A 1 7)) J) := by
          rw [fX2_takeWord, il0, il1, rdV hRd, x3, k_C, q_I, if_pos rfl, rdI7 hRd, rdV hRd, hf, k_C, q_V, fX2_takeWord_17, rdI3 hRd, e3, if_neg (by decide)]
        have hLf := hL.fr hsp z4 z5
        have x31 : flA A 1 (A 1 7) sp 1 = flM M 1 0 3 := hLf.2.1.1.2.1
        have h3 := hLf.1.1.2.1
        have htn := c_tnE (J := J) hRd (A := flA A 1 (A 1 7)) 0 (flM M 1 0 3 - 1) (by omega) (by omega) z3.2.2.2.1.2.1
        refine ⟨flA A 1 (A 1 7), flM M 1, g, ?_, ?_, z3, z4.fl, z5.fp, fun y => by omega⟩
        · rw [fX2_readLine, il0, il1, rdV hRd, x1, k_C, q_I, if_pos rfl, rdV hRd, x2, k_C, q_I, if_pos rfl, rdV hRd, htw, k_C, q_V, rdV hRd, fX2_readRow, rdI7 hRd, plI1 hPl, x31, il0, il1, ii_sub, rdV hRd, htn, k_C, q_I, if_pos (by rw [ii_lt _ _ (by omega)]; omega), k_C, q_V]
        · rw [fX7_line, il0, il1, nV, y1, nC, q_I, if_pos rfl, nV, y2, nC, q_I, if_pos rfl, nV, y3, nC, q_I, if_pos rfl, nV, m_fails 1 h0, nC, q_V]
/-- the end of the text -/
theorem p_end (K : Nat × Nat) (J : JI) (g : Int → Int) (hRd : isReader c 1) (h : RT A M n) : ∃ A' M', fX2_readText_62 1 (CW c A J) = some (Sum.inl (some (Value.int (ii (if M' 0 26 = 0 then 1 else 0)))), CW c A' J) ∧ fX7_reads_188 0 (NW K (mg M g)) = some (Sum.inl none, NW K (mg M' g)) ∧ RT A' M' n ∧ FAr A A' ∧ FMr M M' ∧ (M' 0 26 = 0 → M 0 26 = 0) := by
  have hb := h.2.2.1
  have b24 := h.2.2.2.2.1.2.2.1
  have b6 := h.2.2.2.1.2.1
  by_cases q : M 0 26 = 0
  · obtain ⟨⟨r6, r7⟩, r8⟩ := h.2.2.2.2.2 q
    by_cases q2 : M 0 24 = 0
    · refine ⟨A, M, ?_, ?_, h, FAr.refl A, FMr.refl M, fun z => z⟩
      · rw [fX2_readText_62, il0, rdI6 hRd, if_pos (by rw [r6, q2]), fX2_readText_78, il0, rdI3 hRd, if_pos (by rw [hb.1, q]), if_pos q]
        rfl
      · rw [fX7_reads_188, il0, nI24, mg_0, if_pos (by rw [q2]), fX7_reads_201, il1, nV, m_ifN, nC, q_V]
    · obtain ⟨z3, z4, z5, z6⟩ := RT_fail h q 1 (A 1 7) (by omega) r7
      have e3 := flA_3 (A := A) 1 (A 1 7)
      have hf := c_fail (J := J) hRd 1 (A 1 7) (A := A) (by omega)
      refine ⟨flA A 1 (A 1 7), flM M 1, ?_, ?_, z3, z4, z5, fun y => by omega⟩
      · rw [fX2_readText_62, il0, il1, rdI6 hRd, if_neg (by rw [ii_eq _ _ (by omega)]; omega), rdI7 hRd, rdV hRd, hf, k_C, q_V, fX2_readText_78, il0, rdI3 hRd, e3, if_neg (by decide), z6, if_neg (by omega)]
        rfl
      · rw [fX7_reads_188, il0, il1, nI24, mg_0, if_neg (by rw [ii_eq _ _ (by omega)]; exact q2), fX7_reads_201, il1, nV, m_if 1 (m_fails 1 q), nC, q_V]
  · have hf := c_failN (J := J) hRd 1 (A 1 7) (A := A) (by omega) (by omega)
    refine ⟨A, M, ?_, ?_, h, FAr.refl A, FMr.refl M, fun z => z⟩
    · rw [fX2_readText_62, il0, il1, rdI6 hRd, rdI7 hRd, rdV hRd, hf, k_C, q_V, fX2_readText_78, il0, rdI3 hRd, ite_self, if_neg (by rw [ii_eq _ _ (by omega)]; omega), if_neg q]
      rfl
    · have hf2 := m_if (K := K) (g := g) 1 (m_failsN (g := g) 1 q (by omega))
      by_cases q2 : M 0 24 = 0
      · rw [fX7_reads_188, il0, nI24, mg_0, if_pos (by rw [q2]), fX7_reads_201, il1, nV, m_ifN, nC, q_V]
      · rw [fX7_reads_188, il0, il1, nI24, mg_0, if_neg (by rw [ii_eq _ _ (by omega)]; exact q2), fX7_reads_201, il1, nV, hf2, nC, q_V]
theorem p_lines (K : Nat × Nat) (J : JI) (n : Int) (hRd : isReader c 1) (hS : isState c 338) (hPl : isPlan c sp) (hsp : sp = 377 ∨ sp = 381) : ∀ (k m1 m2 : Nat) (x : Int) (A M : AI) (g : Int → Int), k < m1 → k < m2 → 0 ≤ x → x + k = 500 → RT A M n → (M 0 26 = 0 → (LdS A J M g sp ∧ TD A M g) ∧ x ≤ M 0 23) →
    ∃ (A' M' : AI) (g' : Int → Int), fX2_readText_23 m1 1 sp 338 (ii x) (CW c A J) = some (Sum.inl (some (Value.int (ii (if M' 0 26 = 0 then 1 else 0)))), CW c A' J) ∧ fX7_reads_162 m2 0 (NW K (mg M g)) = some (Sum.inl none, NW K (mg M' g')) ∧ RT A' M' n ∧ FL sp A A' ∧ FP M M' ∧ (M' 0 26 = 0 → LdS A' J M' g' sp) := by
  intro k
  induction k with
  | zero =>
    intro m1 m2 x A M g h1 h2 hx hk h hc
    obtain ⟨u1, rfl⟩ : ∃ m, m1 = m + 1 := ⟨m1 - 1, by omega⟩
    obtain ⟨u2, rfl⟩ : ∃ m, m2 = m + 1 := ⟨m2 - 1, by omega⟩
    have hb := h.2.2.1
    have b24 := h.2.2.2.2.1.2.2.1
    obtain ⟨A', M', e1, e2, r, f, fm, i⟩ := p_end (c := c) K J g hRd h
    refine ⟨A', M', g, ?_, ?_, r, f.fl, fm.fp, fun y => (hc (i y)).1.1.fr hsp f fm⟩
    · rw [fX2_readText_23, il500, if_pos (by rw [ii_le _ _ (by omega)]; omega), e1]
    · rw [fX7_reads_162, il0, il3, nI26, mg_0, nI24, mg_0]
      by_cases q : M 0 26 = 0
      · have hx' := (hc q).2
        have h24 : M 0 24 ≠ 3 := fun y => by
          have := ((h.2.2.2.2.2 q).2 (by omega)).1.2
          have := h.1.2
          have := h.2.2.2.2.1.1
          omega
        rw [if_pos (by rw [q]), if_neg (by rw [ii_eq _ _ (by omega)]; exact h24), e2]
      · rw [if_neg (by rw [ii_eq _ _ (by omega)]; exact q), e2]
  | succ k ih =>
    intro m1 m2 x A M g h1 h2 hx hk h hc
    obtain ⟨u1, rfl⟩ : ∃ m, m1 = m + 1 := ⟨m1 - 1, by omega⟩
    obtain ⟨u2, rfl⟩ : ∃ m, m2 = m + 1 := ⟨m2 - 1, by omega⟩
    have hb := h.2.2.1
    have b24 := h.2.2.2.2.1.2.2.1
    have b6 := h.2.2.2.1.2.1
    by_cases q : M 0 26 = 0
    · obtain ⟨⟨r6, r7⟩, r8⟩ := h.2.2.2.2.2 q
      by_cases q2 : M 0 24 = 3
      · obtain ⟨⟨hL, hT⟩, hx'⟩ := hc q
        have hr := r8 (by omega)
        have hlt := hr.1.2
        obtain ⟨A1, M1, a1, b1, r1, f1, k1, o1, p1⟩ := p_adv (c := c) K J hRd h q hr.1.1
        obtain ⟨A2, M2, g2, a2, b2, r2, f2, k2, i2⟩ := p_line (c := c) K J hRd hS hPl hsp r1 o1 (hL.fr hsp f1 k1) (hT.fr f1 k1)
        obtain ⟨A', M', g', e1, e2, r, f, fm, i⟩ := ih u1 u2 (x + 1) A2 M2 g2 (by omega) (by omega) (by omega) (by omega) r2 (fun y => ⟨(i2 y).1, by have := (i2 y).2; omega⟩)
        refine ⟨A', M', g', ?_, ?_, r, (f1.fl.trans f2).trans f, (k1.fp.trans k2).trans fm, i⟩
        · rw [fX2_readText_23, il0, il1, il3, il500, if_neg (by rw [ii_le _ _ (by omega)]; omega), rdI3 hRd, if_pos (by rw [hb.1, q]), rdI6 hRd, if_pos (by rw [r6, q2]), rdV hRd, a1, k_C, q_V, rdV hRd, a2, k_C, q_V, ii_add, lt_q, e1]
        · rw [fX7_reads_162, il0, il3, nI26, mg_0, if_pos (by rw [q]), nI24, mg_0, if_pos (by rw [q2]), nV, b1 g, nC, q_V, nV, b2, nC, q_V, e2]
      · obtain ⟨A', M', e1, e2, r, f, fm, i⟩ := p_end (c := c) K J g hRd h
        refine ⟨A', M', g, ?_, ?_, r, f.fl, fm.fp, fun y => (hc (i y)).1.1.fr hsp f fm⟩
        · rw [fX2_readText_23, il0, il3, il500, if_neg (by rw [ii_le _ _ (by omega)]; omega), rdI3 hRd, if_pos (by rw [hb.1, q]), rdI6 hRd, if_neg (by rw [ii_eq _ _ (by omega)]; omega), e1]
        · rw [fX7_reads_162, il0, il3, nI26, mg_0, if_pos (by rw [q]), nI24, mg_0, if_neg (by rw [ii_eq _ _ (by omega)]; exact q2), e2]
    · obtain ⟨A', M', e1, e2, r, f, fm, i⟩ := p_end (c := c) K J g hRd h
      refine ⟨A', M', g, ?_, ?_, r, f.fl, fm.fp, fun y => absurd (i y) q⟩
      · rw [fX2_readText_23, il0, il3, il500, if_neg (by rw [ii_le _ _ (by omega)]; omega), rdI3 hRd, if_neg (by rw [ii_eq _ _ (by omega)]; omega), e1]
      · rw [fX7_reads_162, il0, il3, nI26, mg_0, if_neg (by rw [ii_eq _ _ (by omega)]; exact q), e2]
end LNT
