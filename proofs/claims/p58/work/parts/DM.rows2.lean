/-! THE LAW: the rows' texts, compared; all rows -/
section RW2
variable {C0 N0 n : Nat} {c c0 c' c2 : CC} {A A0 A' A2 : AI} {J J0 J' J2 : JI} {M : AI} {g o : Int → Int} {pl sp tv cap tv' cap' B tvb capb k m w d : Nat} {p p' : TP} {q r : Int}
theorem LX.grc (h : LX k m c c' A A' J J') : GRc c c' cap cap k m := ⟨⟨h.1.1, by have := h.2.1.1; omega⟩, ⟨h.2.1.2.1.1, by have := h.2.1.2.1.2; omega⟩, h.2.1.2.2.1, by have := h.2.1.2.2.2; omega⟩
theorem TL.grc (h : TL c c' cap cap' A A' J J') : GRc c c' cap cap' 0 0 := by
  have h1 := h.1
  have h2 := h.2.1
  exact ⟨⟨h1.1, by omega⟩, ⟨h1.2.1, by omega⟩, h1.2.2, by omega⟩
/-- the state, and a String of the law's, behind a text of the class's -/
theorem LwD.tvlt (h : LwD C0 N0 n pl sp tv cap c A J M g w d q) : tv < c.2.2.1 := h.1.1.1.2.2.2.2.1.2.2.1.1
theorem n_isT (h : LwD C0 N0 n pl sp tv cap c A J M g w d q) {s L : Nat} {t : Int → Int} (hs : isStr c A s L t) (hm : M 0 40 = L) (ht : ∀ i : Int, 0 ≤ i → i < L → M 16 i = t i) (hr : RO C0 N0 n cap c 3 12) {x : Int32} (hx : x = ii (M 0 40)) : ∃ (c' : CC) (A' : AI) (J' : JI), (∀ K : Int32 → AS → Option AR, cS (CW c A J) (fL_isText 0 x s (CW c A J)) (qI K) = K (ii 1) (CW c' A' J')) ∧ LX 3 12 c c' A A' J J' := by
  obtain ⟨c3, A3, J3, e3, x3⟩ := n_isText h.1.1 hs hm ht hr
  refine ⟨c3, A3, J3, fun K => ?_, x3⟩
  rw [hx, hm, e3, k_Cl x3.le, q_I]
theorem n_rows159 (hh : LwD C0 N0 n pl sp tv cap c0 A0 J0 M g w d q) (hro : RQ C0 N0 n cap c0 1400 4600) (hr : 0 ≤ r ∧ r < M 0 3) (hb : BX 2 27 c0 c A0 A J0 J B tvb capb (wrT M g r)) (hsh : Sh (rwT M g r) (wrT M g r)) (hpb : 0 ≤ (rwT M g r).1 ∧ (rwT M g r).1 ≤ 530) (f : Nat) : ∃ (c' : CC) (A' : AI) (J' : JI) (tv' cap' : Nat), fL_rows_159 (fL_rows_2 f) 0 w (ii r) B (CW c A J) = fL_rows_2 f 0 w (ii (r + 1)) (CW c' A' J') ∧ LwD C0 N0 n pl sp tv' cap' c' A' J' (txM M (rwT M g r)) g w d q ∧ GRc c0 c' cap cap' 1400 4600 := by
  have hM := hh.1.li.1
  have hG := hh.1.li.2.2.2
  have h38 := hM.1.2.1
  have h39 := hM.1.2.2.2.2.2.2.2
  have h4 := hh.1.2.2.2.2.1
  have hz : zB = 900000 := zB_e
  have hcap := hh.capB
  have hsb := hsh.b
  have hcb := hb.2.2.2
  have hb1 := hb.1.2.1
  have hle := hb.1.1.1
  have htv := hh.tvlt
  have hw := hh.1.2.2.2.1
  obtain ⟨c1, A1, J1, e1, s1, x1, z1⟩ := k_bT hb (by omega)
  have x01 := hb.1.trans x1
  have h1 := hh.lx x01 (by omega)
  have g1 := x01.grc (cap := cap)
  obtain ⟨c2, A2, J2, tv2, cap2, e2, hI2, hL2⟩ := d_writeRow h1.1.1 h1.1.2.1.1 h1.1.2.1.2 r hr
  have h2 := h1.txt hI2 hL2
  have g2 := hL2.grc
  have hcap2 := h2.capB
  have s2 := s1.tl hL2 h1.1.1.1.2.2.2.2.1.2.1 (by omega)
  have hln := s_len (J := J2) s2
  have t1 := txM_T M (rwT M g r)
  have v1 : (( (wrT M g r).1.toNat : Nat) : Int) = (wrT M g r).1 := by omega
  rw [fL_rows_159, e1, lkV h1.1.1.1, e2, k_Cl hL2.1, q_I, k_V s2.1.1, hln, k_C, q_I, v1]
  rcases hsh with ⟨a, b⟩ | ⟨a, b, e⟩
  · obtain ⟨c3, A3, J3, e3, x3⟩ := n_isT (J := J2) h2 s2 (t1.1.trans (by omega)) (fun i u v => by omega) (by omega) (x := ii (rwT M g r).1) (by rw [t1.1])
    have h3 := h2.lx x3 (by omega)
    have g3 := x3.grc (cap := cap2)
    refine ⟨c3, A3, J3, tv2, cap2, ?_, h3, by omega⟩
    rw [if_pos (by rw [b]; rfl), fL_rows_190, e3, if_neg (by decide), lt_q, ii_s]
  · obtain ⟨c3, A3, J3, e3, s3, nc3, z3⟩ := s_sub (J := J2) s2 (by omega) (by omega)
    have x3 := NC.lx (m := 4 + ((wrT M g r).1.toNat - 1)) nc3 (by omega)
    have h3 := h2.lx x3 (by omega)
    have g3 := x3.grc (cap := cap2)
    obtain ⟨c4, A4, J4, e4, x4⟩ := n_isT (J := J3) h3 s3 (t1.1.trans (by omega)) (fun i u v => by
      rw [t1.2 i u (by omega)]
      exact (e i u (by omega)).symm) (by omega) (x := ii (rwT M g r).1) (by rw [t1.1])
    have h4 := h3.lx x4 (by omega)
    have g4 := x4.grc (cap := cap2)
    refine ⟨c4, A4, J4, tv2, cap2, ?_, h4, by omega⟩
    rw [if_neg (by rw [il0, ii_eq _ _ (by omega)]; omega), k_V s2.1.1, show (1 : Int32) = ii 1 from rfl, e3, k_Cl x3.le, q_R, fL_rows_190, e4, if_neg (by decide), lt_q, show (1 : Int32) = ii 1 from rfl, ii_add]
theorem KP.refl (M : AI) : KP M M := ⟨fun _ _ _ => rfl, rfl, rfl⟩
theorem KP.trans {M M1 M2 : AI} (h : KP M M1) (k : KP M1 M2) : KP M M2 := ⟨fun z a b => (k.1 z a b).trans (h.1 z a b), k.2.1.trans h.2.1, k.2.2.trans h.2.2⟩
/-- what a look leads to: the law goes on, its text aside -/
abbrev LokR (C0 N0 n : Nat) (pl sp w d : Nat) (c : CC) (cap : Nat) (M : AI) (g : Int → Int) (q : Int) (k m : Nat) (x : Option AR) : Prop := ∃ (c' : CC) (A' : AI) (J' : JI) (M' : AI) (tv' cap' : Nat), x = some (Sum.inl (some (Value.int (ii (1)))), CW c' A' J') ∧ LwD C0 N0 n pl sp tv' cap' c' A' J' M' g w d q ∧ KP M M' ∧ GRc c c' cap cap' k m
theorem n_rows (hh : LwD C0 N0 n pl sp tv cap c A J M g w d q) (hro : RQ C0 N0 n cap c 11200 36800) : LokR C0 N0 n pl sp w d c cap M g q 11200 36800 (fL_rows 0 w (CW c A J)) := by
  have hM := hh.1.li.1
  have hG := hh.1.li.2.2.2
  have h38 := hM.1.2.1
  have h39 := hM.1.2.2.2.2.2.2.2
  have h4 := hh.1.2.2.2.2.1
  rw [fL_rows, show (0 : Int32) = ii 0 from rfl]
  refine lp (fun f r (s : CC × AI × JI) => fL_rows_2 f 0 w (ii r) (CW s.1 s.2.1 s.2.2)) (fun x => LokR C0 N0 n pl sp w d c cap M g q 11200 36800 x)
    (fun r s => 0 ≤ r ∧ ∃ (M1 : AI) (tv1 cap1 : Nat), LwD C0 N0 n pl sp tv1 cap1 s.1 s.2.1 s.2.2 M1 g w d q ∧ KP M M1 ∧ GRc c s.1 cap cap1 (1400 * r.toNat) (4600 * r.toNat)) (M 0 3) ?_ ?_ FU 0 (c, A, J) (by omega) ⟨by omega, M, tv, cap, hh, KP.refl M, by dsimp only; omega⟩ (by have := FU_e; omega)
  · rintro f r ⟨c1, A1, J1⟩ hi ⟨hi0, M1, tv1, cap1, h1, kp, g1⟩
    dsimp only at h1 g1 ⊢
    have hcap := h1.capB
    have hz : zB = 900000 := zB_e
    have hW1 := h1.1.2.2.1.1
    have s1 := h1.1.2.2.1.2.1.1.2.1
    have e3 : M1 0 3 = M 0 3 := kp.1 3 (by omega) (by omega)
    rw [e3] at s1
    have hr1 : 0 ≤ r ∧ r < M1 0 3 := by omega
    obtain ⟨c2, A2, J2, t2, k2, f2, b2⟩ := k_bI (c := c1) (A := A1) (J := J1) (by omega)
    obtain ⟨c3, A3, J3, t3, k3, f3, b3⟩ := n_rows23 h1 (by omega) hr1 b2 (fL_rows_2 f)
    obtain ⟨c4, A4, J4, t4, k4, f4, b4⟩ := n_rows68 h1 (by omega) hr1 b3 (fL_rows_2 f)
    obtain ⟨c5, A5, J5, t5, k5, f5, b5, hsh, hpb⟩ := n_rows133 h1 (by omega) hr1 b4 (fL_rows_2 f)
    obtain ⟨c6, A6, J6, t6, k6, f6, h6, g6⟩ := n_rows159 h1 (by omega) hr1 b5 hsh hpb f
    have hcap6 := h6.capB
    refine Or.inr ⟨(c6, A6, J6), ⟨by omega, _, t6, k6, h6, kp.trans (txM_K _ _), ?_⟩, ?_⟩
    · dsimp only
      rw [show (r + 1).toNat = r.toNat + 1 by omega]
      omega
    · show fL_rows_2 (f + 1) 0 w (ii r) (CW c1 A1 J1) = _
      rw [fL_rows_2, wdR1 hW1, wd3 hW1 1 1 rfl (by omega), s1, if_neg (by rw [ii_le _ _ (by omega)]; omega), f2, f3, f4, f5, f6]
  · rintro f ⟨c1, A1, J1⟩ ⟨hi0, M1, tv1, cap1, h1, kp, g1⟩
    dsimp only at h1 g1 ⊢
    have hW1 := h1.1.2.2.1.1
    have s1 := h1.1.2.2.1.2.1.1.2.1
    have e3 : M1 0 3 = M 0 3 := kp.1 3 (by omega) (by omega)
    rw [e3] at s1
    refine ⟨c1, A1, J1, M1, tv1, cap1, ?_, h1, kp, by omega⟩
    rw [fL_rows_2, wdR1 hW1, wd3 hW1 1 1 rfl (by omega), s1, if_pos (Int32.le_refl _), rZ_1]
end RW2
