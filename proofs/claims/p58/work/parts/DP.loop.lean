/-! THE LAW: its loop, to its end -/
/-- the law's end: all true, and the room taken -/
def LawR (x : Option AR) : Prop := ∃ σ : AS, ax_nc σ ≤ 410000 ∧ ax_ns σ ≤ 2020000 ∧ x = some (.inl (some (.int 1)), ax_use σ (410000 - ax_nc σ) (2020000 - ax_ns σ))
section LPS
variable {c c' : CC} {A A' : AI} {J J' : JI} {M : AI} {g o : Int → Int} {pl sp tv cap w d n : Nat} {q : Int}
/-- so much room the law has -/
def CL : Nat := 400000
def NL : Nat := 2000000
theorem CL_e : CL = 400000 := rfl
theorem NL_e : NL = 2000000 := rfl
theorem n_thE0 (h : LwS CL NL n pl sp tv cap c A J M g o w) (hro : RO CL NL n cap c 3 12) : ∃ (c' : CC) (A' : AI) (J' : JI), (∀ K : Int32 → AS → Option AR, nA (CW c A J) 100 1 (fun q1 s2 => uI s2 q1 0 12 (fun s3 => cR s3 (fL_thrown 0 0 q1 s3) (qI K))) = K (ii 3) (CW c' A' J')) ∧ LX 3 12 c c' A A' J J' := by
  have x1 : LX 1 1 c (nwC c 100 1) A (up (nwA c A) c.2.2.1 0 12) J (nwJ c J) := (LX.new c A J 100 1).upN _ _ _ (Nat.le_refl _)
  have h1 := h.lx x1 (by omega)
  have o1 : okc (nwC c 100 1) c.2.2.1 100 1 := ⟨Nat.lt_succ_self _, if_pos rfl⟩
  have z1 : (nwC c 100 1).2.2.1 = c.2.2.1 + 1 := rfl
  have z2 : (nwC c 100 1).2.2.2.1 = c.2.2.2.1 + 1 := rfl
  have z3 : (nwC c 100 1).2.2.2.2 = c.2.2.2.2 + 1 := rfl
  obtain ⟨c3, A3, J3, y3, y4⟩ := t_thr_count (J := nwJ c J) (A := up (nwA c A) c.2.2.1 0 12) (L := 1) h1.1.1 (by omega) o1 (by omega) nCode3 (fun c4 A4 J4 hx => by
    have h4 := h1.lx hx (by omega)
    rw [up_s]
    exact ⟨A4, J4, d_count12 h4.1 h4.2.1.1 h4.2.1.2, frm.refl _ _ _⟩)
  refine ⟨c3, A3, J3, fun K => ?_, x1.trans y4⟩
  have l0 : ∀ (E : AI) (k : AS → Option AR), uI (CW (nwC c 100 1) E (nwJ c J)) c.2.2.1 0 12 k = k (CW (nwC c 100 1) (up E c.2.2.1 0 12) (nwJ c J)) := fun E k => k_uI o1 0 12 (by omega) k
  rw [k_nA (n := 1) _ (by omega) ⟨rfl, by decide, by omega⟩, l0, y3, k_R y4, q_I]
theorem n_thE1 (h : LwS CL NL n pl sp tv cap c A J M g o w) (hro : RO CL NL n cap c 3 12) : ∃ (c' : CC) (A' : AI) (J' : JI), (∀ K : Int32 → AS → Option AR, nA (CW c A J) 100 1 (fun q1 s2 => uI s2 q1 0 6 (fun s3 => cR s3 (fL_thrown 0 1 q1 s3) (qI K))) = K (ii 3) (CW c' A' J')) ∧ LX 3 12 c c' A A' J J' := by
  have x1 : LX 1 1 c (nwC c 100 1) A (up (nwA c A) c.2.2.1 0 6) J (nwJ c J) := (LX.new c A J 100 1).upN _ _ _ (Nat.le_refl _)
  have h1 := h.lx x1 (by omega)
  have o1 : okc (nwC c 100 1) c.2.2.1 100 1 := ⟨Nat.lt_succ_self _, if_pos rfl⟩
  have z1 : (nwC c 100 1).2.2.1 = c.2.2.1 + 1 := rfl
  have z2 : (nwC c 100 1).2.2.2.1 = c.2.2.2.1 + 1 := rfl
  have z3 : (nwC c 100 1).2.2.2.2 = c.2.2.2.2 + 1 := rfl
  obtain ⟨c3, A3, J3, y3, y4⟩ := t_thr_setting (J := nwJ c J) (A := up (nwA c A) c.2.2.1 0 6) (L := 1) h1.1.1 (by omega) o1 (by omega) nCode3 (fun c4 A4 J4 hx => by
    have h4 := h1.lx hx (by omega)
    rw [up_s]
    exact ⟨A4, J4, d_setting6 h4.1 h4.2.1.1 h4.2.1.2, frm.refl _ _ _⟩)
  refine ⟨c3, A3, J3, fun K => ?_, x1.trans y4⟩
  have l0 : ∀ (E : AI) (k : AS → Option AR), uI (CW (nwC c 100 1) E (nwJ c J)) c.2.2.1 0 6 k = k (CW (nwC c 100 1) (up E c.2.2.1 0 6) (nwJ c J)) := fun E k => k_uI o1 0 6 (by omega) k
  rw [k_nA (n := 1) _ (by omega) ⟨rfl, by decide, by omega⟩, l0, y3, k_R y4, q_I]
theorem n_thE2 (h : LwS CL NL n pl sp tv cap c A J M g o w) (hro : RO CL NL n cap c 3 13) : ∃ (c' : CC) (A' : AI) (J' : JI), (∀ K : Int32 → AS → Option AR, nA (CW c A J) 100 2 (fun q11 s12 => uI s12 q11 0 0 (fun s13 => uI s13 q11 1 9 (fun s14 => cR s14 (fL_thrown 0 2 q11 s14) (qI K)))) = K (ii 3) (CW c' A' J')) ∧ LX 3 13 c c' A A' J J' := by
  have h38 := h.li.1.1.2.1
  have x1 : LX 1 2 c (nwC c 100 2) A (up (up (nwA c A) c.2.2.1 0 0) c.2.2.1 1 9) J (nwJ c J) := ((LX.new c A J 100 2).upN _ _ _ (Nat.le_refl _)).upN _ _ _ (Nat.le_refl _)
  have h1 := h.lx x1 (by omega)
  have o1 : okc (nwC c 100 2) c.2.2.1 100 2 := ⟨Nat.lt_succ_self _, if_pos rfl⟩
  have z1 : (nwC c 100 2).2.2.1 = c.2.2.1 + 1 := rfl
  have z2 : (nwC c 100 2).2.2.2.1 = c.2.2.2.1 + 1 := rfl
  have z3 : (nwC c 100 2).2.2.2.2 = c.2.2.2.2 + 2 := rfl
  obtain ⟨c3, A3, J3, y3, y4⟩ := t_thr_row (J := nwJ c J) (A := up (up (nwA c A) c.2.2.1 0 0) c.2.2.1 1 9) (L := 2) h1.1.1 (by omega) o1 (by omega) nCode3 (fun c4 A4 J4 hx => by
    have h4 := h1.lx hx (by omega)
    rw [up_s, up_n _ _ _ _ _ _ (by omega), up_s]
    exact ⟨A4, J4, d_row9 h4.1 h4.2.1.1 h4.2.1.2 0 (by omega), frm.refl _ _ _⟩)
  refine ⟨c3, A3, J3, fun K => ?_, x1.trans y4⟩
  have l0 : ∀ (E : AI) (k : AS → Option AR), uI (CW (nwC c 100 2) E (nwJ c J)) c.2.2.1 0 0 k = k (CW (nwC c 100 2) (up E c.2.2.1 0 0) (nwJ c J)) := fun E k => k_uI o1 0 0 (by omega) k
  have l1 : ∀ (E : AI) (k : AS → Option AR), uI (CW (nwC c 100 2) E (nwJ c J)) c.2.2.1 1 9 k = k (CW (nwC c 100 2) (up E c.2.2.1 1 9) (nwJ c J)) := fun E k => k_uI o1 1 9 (by omega) k
  rw [k_nA (n := 2) _ (by omega) ⟨rfl, by decide, by omega⟩, l0, l1, y3, k_R y4, q_I]
theorem n_law230 (hh : LwD CL NL n pl sp tv cap c A J M g w d q) (hn : n ≤ 500) (hro : RQ CL NL n cap c 100 300) (sc : Nat × (Nat → Int32)) : LawR (fL_law_230 sc 0 (CW c A J)) := by
  have hz : zB = 900000 := zB_e
  have hcap := hh.capB
  obtain ⟨c1, A1, J1, e1, x1⟩ := n_thE0 hh.1 (by omega)
  have h1 := hh.lx x1 (by omega)
  have g1 := x1.gro
  obtain ⟨c2, A2, J2, e2, x2⟩ := n_thE1 h1.1 (by omega)
  have h2 := h1.lx x2 (by omega)
  have g2 := x2.gro
  obtain ⟨c3, A3, J3, e3, x3⟩ := n_thE2 h2.1 (by omega)
  have g3 := x3.gro
  have hCL := CL_e
  have hNL := NL_e
  have b1 : ax_nc (CW c3 A3 J3) ≤ 410000 := by show c3.2.2.2.1 ≤ 410000; omega
  have b2 : ax_ns (CW c3 A3 J3) ≤ 2020000 := by show c3.2.2.2.2 ≤ 2020000; omega
  refine ⟨CW c3 A3 J3, b1, b2, ?_⟩
  rw [fL_law_230, e1, if_pos ii_3, e2, if_pos ii_3, e3, if_pos ii_3, rW, if_pos ⟨Or.inr rfl, b1, b2⟩]
/-- what holds at the loop's head, so many rounds ahead -/
def LoopS (w d : Nat) (x : Int) (c : CC) (A : AI) (J : JI) : Prop := ∃ (n pl sp tv cap : Nat) (M : AI) (g : Int → Int) (q : Int), LwD CL NL n pl sp tv cap c A J M g w d q ∧ (n : Int) + 3 * x ≤ 500 ∧ q + 24 * x ≤ 90000 ∧ RQ CL NL n cap c (12000 * x.toNat + 100) (60000 * x.toNat + 300)
theorem n_acts (sc : Nat × (Nat → Int32)) (hs : sc.1 < 2147483648) (r167 : _) (x4 : Int32) : ∀ (j : Nat), j ≤ 3 → ∀ {n : Nat} {c : CC} {A : AI} {J : JI} {M : AI} {g : Int → Int} {q : Int}, LwD CL NL n pl sp tv cap c A J M g w d q → n + j ≤ 590 → q + 8 * j ≤ 99980 → RQ CL NL n cap c (300 + 90 * j) (6500 + 6400 * j) → ∀ f : Nat, j < f → ∃ (c' : CC) (A' : AI) (J' : JI) (M' : AI) (g' : Int → Int), fL_law_175 sc r167 f d w 0 x4 (ii (3 - j)) (CW c A J) = fL_law_198 sc r167 d w 0 x4 (CW c' A' J') ∧ LwD CL NL (n + j) pl sp tv cap c' A' J' M' g' w d (q + 8 * j) ∧ GRo c c' (90 * j) (6400 * j)
  | 0, _, n, c, A, J, M, g, q, h, hn, hq, hro, 0, hf => by omega
  | 0, _, n, c, A, J, M, g, q, h, hn, hq, hro, f + 1, hf => by
    refine ⟨c, A, J, M, g, ?_, ?_, by omega⟩
    · rw [fL_law_175, if_pos (show (3 : Int32) ≤ ii (3 - ((0 : Nat) : Int)) by decide)]
    · rw [show q + 8 * ((0 : Nat) : Int) = q by omega]
      exact h
  | j + 1, hj, n, c, A, J, M, g, q, h, hn, hq, hro, 0, hf => by omega
  | j + 1, hj, n, c, A, J, M, g, q, h, hn, hq, hro, f + 1, hf => by
    have hz : zB = 900000 := zB_e
    have hcap := h.capB
    obtain ⟨c1, A1, J1, M1, g1, e1, h1, r1⟩ := n_act h (by omega) (by omega) sc hs (by omega)
    obtain ⟨c2, A2, J2, M2, g2, e2, h2, r2⟩ := n_acts sc hs r167 x4 j (by omega) h1 (by omega) (by omega) (by omega) f (by omega)
    refine ⟨c2, A2, J2, M2, g2, ?_, ?_, by omega⟩
    · rw [← e2, fL_law_175, show (3 : Int32) = ii 3 from rfl, if_neg (by rw [ii_le _ _ (by omega)]; omega), e1, k_Cl ⟨r1.1.1, r1.2.1.1, r1.2.2.1⟩, q_I, if_neg (by decide), ii_s, lt_q, show (3 : Int) - ((j + 1 : Nat) : Int) + 1 = 3 - j by omega]
    · rw [show q + 8 * ((j + 1 : Nat) : Int) = q + 8 + 8 * j by omega, show n + (j + 1) = n + 1 + j by omega]
      exact h2
theorem n_round (sc : Nat × (Nat → Int32)) (hs : sc.1 < 2147483648) (x : Int) (hx : 0 < x ∧ x ≤ 12) (h : LoopS w d x c A J) (f : Nat) : ∃ (c' : CC) (A' : AI) (J' : JI), fL_law_167 sc (f + 1) d w 0 (ii x) (CW c A J) = fL_law_167 sc f d w 0 (ii (x - 1)) (CW c' A' J') ∧ LoopS w d (x - 1) c' A' J' := by
  have hz : zB = 900000 := zB_e
  obtain ⟨n, pl, sp, tv, cap, M, g, q, hh, hn, hq, hro⟩ := h
  have hcap := hh.capB
  have q0 := hh.2.2.2.1
  obtain ⟨c1, A1, J1, M1, g1, e1, h1, r1⟩ := n_acts sc hs (fL_law_167 sc f) (ii x) 3 (by omega) hh (by omega) (by omega) (by omega) FU (by have := FU_e; omega)
  obtain ⟨c2, A2, J2, e2, x2⟩ := n_isLike h1.1 (by omega)
  have h2 := h1.lx x2 (by omega)
  have r2 := x2.gro
  obtain ⟨c3, A3, J3, M3, tv3, cap3, e3, h3, kp3, r3⟩ := n_looks h2 (by omega)
  have hcap3 := h3.capB
  obtain ⟨c4, A4, J4, M4, tv4, cap4, e4, h4, kp4, r4⟩ := n_rows h3 (by omega)
  have hcap4 := h4.capB
  refine ⟨c4, A4, J4, ?_, n + 3, pl, sp, tv4, cap4, M4, g1, _, h4, by omega, by omega, by omega⟩
  rw [fL_law_167, if_neg (by rw [il0, ii_le _ _ (by omega)]; omega), show (0 : Int32) = ii (3 - ((3 : Nat) : Int)) from rfl, e1, fL_law_198, e2, k_Cl x2.le, q_I, if_neg (by decide), e3, k_Cl ⟨r3.1.1, r3.2.1.1, r3.2.2.1⟩, q_I, if_neg (by decide), e4, k_Cl ⟨r4.1.1, r4.2.1.1, r4.2.2.1⟩, q_I, if_neg (by decide), show ((-1) : Int32) = ii (-1) from rfl, ii_add, lt_q, show x + -1 = x - 1 by omega]
theorem n_loop (sc : Nat × (Nat → Int32)) (hs : sc.1 < 2147483648) (x : Int) (hx : 0 ≤ x ∧ x ≤ 12) (h : LoopS w d x c A J) : LawR (fL_law_167 sc FU d w 0 (ii x) (CW c A J)) := by
  refine lpd (fun f x (s : CC × AI × JI) => fL_law_167 sc f d w 0 (ii x) (CW s.1 s.2.1 s.2.2)) LawR (fun x s => (0 ≤ x ∧ x ≤ 12) ∧ LoopS w d x s.1 s.2.1 s.2.2) 0 ?_ ?_ FU x (c, A, J) (by omega) ⟨hx, h⟩ (by have := FU_e; omega)
  · rintro f x ⟨c1, A1, J1⟩ hi ⟨hx, h1⟩
    obtain ⟨c2, A2, J2, e2, h2⟩ := n_round sc hs x ⟨hi, hx.2⟩ h1 f
    exact Or.inr ⟨(c2, A2, J2), ⟨by omega, h2⟩, e2⟩
  · rintro f ⟨c1, A1, J1⟩ ⟨hx, n, pl, sp, tv, cap, M, g, q, hh, hn, hq, hro⟩
    dsimp only at hh hro ⊢
    rw [fL_law_167, if_pos (show ii 0 ≤ (0 : Int32) from by decide)]
    exact n_law230 hh (by omega) (by omega) sc
end LPS
