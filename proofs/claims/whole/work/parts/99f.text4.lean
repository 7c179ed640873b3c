/-! TEXTS, IV: writeRow -/
def blP (g : Int → Int) (r : Int) : Nat → TP
  | 0 => tP0
  | i + 1 => tC 93 (tN (cel g r (5 + i)) (tC 91 (tB (blP g r i))))
def piP (met len g : Int → Int) (r : Int) (p : TP) : Nat → TP
  | 0 => p
  | i + 1 => tK met len (cel g r (11 + i)) (tB (piP met len g r p i))
theorem blP_s (g : Int → Int) (r i : Int) (h : 0 ≤ i) : blP g r (i + 1).toNat = tC 93 (tN (cel g r (5 + i)) (tC 91 (tB (blP g r i.toNat)))) := by
  rw [show (i + 1).toNat = i.toNat + 1 by omega]
  show tC 93 (tN (cel g r (5 + (i.toNat : Int))) (tC 91 (tB (blP g r i.toNat)))) = _
  rw [show ((i.toNat : Nat) : Int) = i by omega]
theorem piP_s (met len g : Int → Int) (r : Int) (p : TP) (i : Int) (h : 0 ≤ i) : piP met len g r p (i + 1).toNat = tK met len (cel g r (11 + i)) (tB (piP met len g r p i.toNat)) := by
  rw [show (i + 1).toNat = i.toNat + 1 by omega]
  show tK met len (cel g r (11 + (i.toNat : Int))) (tB (piP met len g r p i.toNat)) = _
  rw [show ((i.toNat : Nat) : Int) = i by omega]
theorem tK_1 (met len : Int → Int) (k : Int) (p : TP) : (tK met len k p).1 = p.1 + 1 + nd (len k) := rfl
theorem blP_b {g : Int → Int} {r : Int} (hg : RG g r) : ∀ i : Nat, (i : Int) ≤ cel g r 0 → 0 ≤ (blP g r i).1 ∧ (blP g r i).1 ≤ 6 * i
  | 0, _ => by show 0 ≤ (0 : Int) ∧ (0 : Int) ≤ _; omega
  | i + 1, h => by
    have ih := blP_b hg i (by omega)
    have h1 := tB_b (blP g r i)
    have h2 := hg.2.2.1 i (by omega) (by omega)
    have h3 := nd_3 (cel g r (5 + i)) (by omega)
    have h4 := nd_b (cel g r (5 + i))
    show 0 ≤ (tB (blP g r i)).1 + 1 + nd (cel g r (5 + i)) + 1 ∧ (tB (blP g r i)).1 + 1 + nd (cel g r (5 + i)) + 1 ≤ _
    omega
theorem piP_b {met len g : Int → Int} {r : Int} {p : TP} (hg : RG g r) (hl : ∀ k, 0 ≤ k → k < 10 → len k ≤ 99) (hp : 0 ≤ p.1) : ∀ i : Nat, (i : Int) ≤ cel g r 1 → 0 ≤ (piP met len g r p i).1 ∧ (piP met len g r p i).1 ≤ p.1 + 4 * i
  | 0, _ => by show 0 ≤ p.1 ∧ p.1 ≤ _; omega
  | i + 1, h => by
    have ih := piP_b (met := met) (len := len) hg hl hp i (by omega)
    have h1 := tB_b (piP met len g r p i)
    have h2 := hg.2.2.2.1 i (by omega) (by omega)
    have h3 := nd_2 (len (cel g r (11 + i))) (by have := hl _ h2.1 h2.2; omega)
    have h4 := nd_b (len (cel g r (11 + i)))
    show 0 ≤ (tK met len (cel g r (11 + i)) (tB (piP met len g r p i))).1 ∧ (tK met len (cel g r (11 + i)) (tB (piP met len g r p i))).1 ≤ _
    rw [tK_1]
    omega
section TX7
variable {c c' c2 : CC} {A A' A2 : AI} {J J' J2 : JI} {pl sp tv cap tv' cap' tv2 cap2 : Nat} {p : TP} {len g : Int → Int} {r : Int} {M : AI}
theorem TL.rr (h : TL c c' cap cap' A A' J J') (hrr : RR A J (rc 303 r) len g r) (hg : RG g r) (hr : 0 ≤ r ∧ r < 8) : RR A' J' (rc 303 r) len g r :=
  RR.frame hrr hg (fun b z hb => h.2.2.1 b z (by unfold inR rc at hb; omega)) (fun b z hb => h.2.2.2 b z (by unfold inR rc at hb; omega)) (fun _ _ _ => rfl)
theorem TL.pr (h : TL c c' cap cap' A A' J J') (hap : pl = 377 ∧ sp = 381 ∨ pl = 381 ∧ sp = 377) (hP : PR A pl M) : PR A' pl M := PR_frm hP (fun b z hb => h.2.2.1 b z (by omega))
theorem isLock.now (h : isLock c pl sp tv cap) (hr : 0 ≤ r ∧ r < 8) : isRow c (rc 303 r) := h.2.1.2.2.2.1.row r hr
theorem c_blLoop (h : TS c A pl sp tv cap tP0) (hrr : RR A J (rc 303 r) len g r) (hg : RG g r) (hr : 0 ≤ r ∧ r < 8) : ∃ (c' : CC) (A' : AI) (J' : JI) (tv' cap' : Nat), fX6_writeRow_16 FU 0 (rc 303 r) (ii 0) (CW c A J) = fX6_writeRow_67 0 (rc 303 r) (CW c' A' J') ∧ TS c' A' pl sp tv' cap' (blP g r (cel g r 0).toNat) ∧ TL c c' cap cap' A A' J J' := by
  have h0 := hg.1
  refine lp (fun n i (s : CC × AI × JI) => fX6_writeRow_16 n 0 (rc 303 r) (ii i) (CW s.1 s.2.1 s.2.2)) (fun x => ∃ (c' : CC) (A' : AI) (J' : JI) (tv' cap' : Nat), x = fX6_writeRow_67 0 (rc 303 r) (CW c' A' J') ∧ TS c' A' pl sp tv' cap' (blP g r (cel g r 0).toNat) ∧ TL c c' cap cap' A A' J J')
    (fun i s => 0 ≤ i ∧ ∃ tv' cap' : Nat, TS s.1 s.2.1 pl sp tv' cap' (blP g r i.toNat) ∧ TL c s.1 cap cap' A s.2.1 J s.2.2) (cel g r 0) ?_ ?_ FU 0 (c, A, J) (by omega) ⟨by omega, tv, cap, h, TL.refl _ _ _ _⟩ (by have := FU_e; omega)
  · rintro n i ⟨c1, A1, J1⟩ hi ⟨hI, tv1, cap1, hT, hL⟩
    dsimp only at hT hL ⊢
    have hk1 := hT.1
    have hb := blP_b hg i.toNat (by omega)
    have hb1 := tB_b (blP g r i.toNat)
    have hv := hg.2.2.1 i hI hi
    have hnd := nd_b (cel g r (5 + i))
    have hR1 := hk1.now hr
    have x1 := (hL.rr hrr hg hr).1.1
    obtain ⟨c2, A2, J2, tv2, cap2, e1, e2, e3⟩ := c_gapB (J := J1) hT (by omega)
    obtain ⟨c3, A3, J3, tv3, cap3, f1, f2, f3⟩ := t_app (J := J2) e2 91 (by omega) (by omega)
    have hba := c_blockAt (c := c3) (f2.1.now hr) (((hL.trans e3).trans f3).rr hrr hg hr) hg i ⟨hI, hi⟩
    obtain ⟨c4, A4, J4, tv4, cap4, g1, g2, g3⟩ := t_num (J := J3) f2 (cel g r (5 + i)) (by omega) (by rw [tC_1]; omega)
    obtain ⟨c5, A5, J5, tv5, cap5, i1, i2, i3⟩ := t_app (J := J4) g2 93 (by omega) (by rw [tN_1, tC_1]; omega)
    refine Or.inr ⟨(c5, A5, J5), ⟨by omega, tv5, cap5, ?_, (((hL.trans e3).trans f3).trans g3).trans i3⟩, ?_⟩
    · rw [blP_s g r i hI]; exact i2
    · dsimp only
      rw [fX6_writeRow_16, rwI1 hR1, x1, if_neg (by rw [ii_le _ _ (by omega)]; omega), lkV hk1, e1, k_Cl e3.1, q_V, lkR7 e2.1, sbV e2.1, il91, f1, k_Cl f3.1, q_R, lkR7 f2.1, rwV (f2.1.now hr), hba, k_C, q_I, sbV f2.1, g1, k_Cl g3.1, q_R, lkR7 g2.1, sbV g2.1, il93, i1, k_Cl i3.1, q_R, il1, lt_q, ii_add]
  · rintro n ⟨c1, A1, J1⟩ ⟨hI, tv1, cap1, hT, hL⟩
    dsimp only at hT hL ⊢
    have x1 := (hL.rr hrr hg hr).1.1
    refine ⟨c1, A1, J1, tv1, cap1, ?_, hT, hL⟩
    rw [fX6_writeRow_16, rwI1 (hT.1.now hr), x1, if_pos (Int32.le_refl _)]
theorem c_piLoop (h : TS c A pl sp tv cap p) (hp : p.1 ≤ 100) (hrr : RR A J (rc 303 r) len g r) (hg : RG g r) (hr : 0 ≤ r ∧ r < 8) (hP : PR A pl M) (hM : SA M) (hkb : ∀ k, 0 ≤ k → k < cel g r 1 → cel g r (11 + k) < M 0 9) :
    ∃ (c' : CC) (A' : AI) (J' : JI) (tv' cap' : Nat), fX6_writeRow_69 FU 0 (rc 303 r) (ii 0) (CW c A J) = fX6_writeRow_96 0 (rc 303 r) (CW c' A' J') ∧ TS c' A' pl sp tv' cap' (piP (M 1) (M 2) g r p (cel g r 1).toNat) ∧ TL c c' cap cap' A A' J J' := by
  have h0 := hg.2.1
  have hap := h.1.2.2.2.1.1
  have h9 := hM.1.2.2.2.2.2.2.2
  refine lp (fun n i (s : CC × AI × JI) => fX6_writeRow_69 n 0 (rc 303 r) (ii i) (CW s.1 s.2.1 s.2.2)) (fun x => ∃ (c' : CC) (A' : AI) (J' : JI) (tv' cap' : Nat), x = fX6_writeRow_96 0 (rc 303 r) (CW c' A' J') ∧ TS c' A' pl sp tv' cap' (piP (M 1) (M 2) g r p (cel g r 1).toNat) ∧ TL c c' cap cap' A A' J J')
    (fun i s => 0 ≤ i ∧ ∃ tv' cap' : Nat, TS s.1 s.2.1 pl sp tv' cap' (piP (M 1) (M 2) g r p i.toNat) ∧ TL c s.1 cap cap' A s.2.1 J s.2.2) (cel g r 1) ?_ ?_ FU 0 (c, A, J) (by omega) ⟨by omega, tv, cap, h, TL.refl _ _ _ _⟩ (by have := FU_e; omega)
  · rintro n i ⟨c1, A1, J1⟩ hi ⟨hI, tv1, cap1, hT, hL⟩
    dsimp only at hT hL ⊢
    have hk1 := hT.1
    have hb := piP_b (met := M 1) (len := M 2) (p := p) hg (fun k a b => (hM.2.2.1 k a b).2) h.2.2.1.1 i.toNat (by omega)
    have hb1 := tB_b (piP (M 1) (M 2) g r p i.toNat)
    have hv := hg.2.2.2.1 i hI hi
    have hv9 := hkb i hI hi
    have hR1 := hk1.now hr
    have x1 := (hL.rr hrr hg hr).1.2.2.1
    obtain ⟨c2, A2, J2, tv2, cap2, e1, e2, e3⟩ := c_gapB (J := J1) hT (by omega)
    have hrr2 := (hL.trans e3).rr hrr hg hr
    have hpa := c_pieceAt (c := c2) (J := J2) (e2.1.now hr) hrr2.1.2.2.1 h0 i ⟨hI, hi⟩
    rw [hrr2.2.2.1 i hI hi] at hpa
    have hP2 := (hL.trans e3).pr hap hP
    have hm1 := hM.2.1 _ hv.1 hv.2
    have hm2 := hM.2.2.1 _ hv.1 hv.2
    obtain ⟨c3, A3, J3, tv3, cap3, f1, f2, f3⟩ := c_wKind (J := J2) e2 (by omega) (cel g r (11 + i)) (M 0 9) (M 1) (M 2) ⟨hv.1, hv9⟩ h9.2 hP2.1.2.2.2.2.2.2.2 ⟨(hP2.2.1 _ hv.1 hv9).1, hm1⟩ ⟨(hP2.2.1 _ hv.1 hv9).2, hm2⟩
    refine Or.inr ⟨(c3, A3, J3), ⟨by omega, tv3, cap3, ?_, (hL.trans e3).trans f3⟩, ?_⟩
    · rw [piP_s _ _ g r p i hI]; exact f2
    · dsimp only
      rw [fX6_writeRow_69, rwI4 hR1, x1, if_neg (by rw [ii_le _ _ (by omega)]; omega), lkV hk1, e1, k_Cl e3.1, q_V, rwV (e2.1.now hr), hpa, k_C, q_I, lkV e2.1, f1, k_Cl f3.1, q_V, il1, lt_q, ii_add]
  · rintro n ⟨c1, A1, J1⟩ ⟨hI, tv1, cap1, hT, hL⟩
    dsimp only at hT hL ⊢
    have x1 := (hL.rr hrr hg hr).1.2.2.1
    refine ⟨c1, A1, J1, tv1, cap1, ?_, hT, hL⟩
    rw [fX6_writeRow_69, rwI4 (hT.1.now hr), x1, if_pos (Int32.le_refl _)]
theorem c_rowEnd (h : TS c A pl sp tv cap p) (hp : p.1 ≤ 2900) (hrr : RR A J (rc 303 r) len g r) (hg : RG g r) (hr : 0 ≤ r ∧ r < 8) :
    ∃ (c' : CC) (A' : AI) (J' : JI) (tv' cap' : Nat), fX6_writeRow_96 0 (rc 303 r) (CW c A J) = some (Sum.inl (some (Value.int (ii ((if cel g r 2 = -1 then p else tQ (cel g r 2) p).1)))), CW c' A' J') ∧ TS c' A' pl sp tv' cap' (if cel g r 2 = -1 then p else tQ (cel g r 2) p) ∧ TL c c' cap cap' A A' J J' := by
  have hk := h.1
  have hR := hk.now hr
  have x7 := hrr.1.2.2.2.2.1
  have h7 := hg.2.2.2.2.1
  have hcq := c_hasQuoin (c := c) (A := A) (J := J) hR (by rw [x7]; exact h7)
  rw [x7] at hcq
  by_cases y : cel g r 2 = -1
  · rw [if_pos y] at hcq ⊢
    have hl := t_len (J := J) hk p.1 h.2.1.1
    refine ⟨c, A, J, tv, cap, ?_, h, TL.refl _ _ _ _⟩
    rw [fX6_writeRow_96, rwV hR, hcq, k_C, q_I, if_pos i00, fX6_writeRow_111, lkR7 hk, sbV hk, hl, k_C, q_I]
  · rw [if_neg y] at hcq ⊢
    obtain ⟨c1, A1, J1, tv1, cap1, e1, e2, e3⟩ := c_wOpen (J := J) h (by omega) (cel g r 2) (by omega)
    have hl := t_len (J := J1) e2.1 _ e2.2.1.1
    refine ⟨c1, A1, J1, tv1, cap1, ?_, e2, e3⟩
    rw [fX6_writeRow_96, rwV hR, hcq, k_C, q_I, if_neg (show ¬ ii 1 = (0 : Int32) by decide), rwI7 hR, x7, lkV hk, e1, k_Cl e3.1, q_V, fX6_writeRow_111, lkR7 e2.1, sbV e2.1, hl, k_C, q_I]
end TX7
section TX8
variable {K : Nat × Nat} {M M' : AI} {g : Int → Int} {p : TP} {r : Int}
theorem m_blLoop (h : TM M tP0) (hg : RG g r) (hr : 0 ≤ r ∧ r < 8) : ∃ M', fX7_writeRow_17 FU 0 (ii r) (ii 0) (NW K (mg M g)) = fX7_writeRow_61 0 (ii r) (NW K (mg M' g)) ∧ TM M' (blP g r (cel g r 0).toNat) ∧ FM M M' := by
  have h0 := hg.1
  refine lp (fun n i (s : AI) => fX7_writeRow_17 n 0 (ii r) (ii i) (NW K (mg s g))) (fun x => ∃ M', x = fX7_writeRow_61 0 (ii r) (NW K (mg M' g)) ∧ TM M' (blP g r (cel g r 0).toNat) ∧ FM M M')
    (fun i s => 0 ≤ i ∧ TM s (blP g r i.toNat) ∧ FM M s) (cel g r 0) ?_ ?_ FU 0 M (by omega) ⟨by omega, h, FM.refl _⟩ (by have := FU_e; omega)
  · rintro n i M1 hi ⟨hI, hT, hL⟩
    have hb := blP_b hg i.toNat (by omega)
    have hb1 := tB_b (blP g r i.toNat)
    have hv := hg.2.2.1 i hI hi
    have hnd := nd_b (cel g r (5 + i))
    obtain ⟨M2, e1, e2, e3⟩ := m_blank (K := K) (g := g) hT (by omega)
    obtain ⟨M3, f1, f2, f3⟩ := m_says (K := K) (g := g) e2 91 (by omega)
    obtain ⟨M4, g1, g2, g3⟩ := m_num (K := K) (g := g) f2 (cel g r (5 + i)) (by omega) (by rw [tC_1]; omega)
    obtain ⟨M5, i1, i2, i3⟩ := m_says (K := K) (g := g) g2 93 (by rw [tN_1, tC_1]; omega)
    refine Or.inr ⟨M5, ⟨by omega, ?_, (((hL.trans e3).trans f3).trans g3).trans i3⟩, ?_⟩
    · rw [blP_s g r i hI]; exact i2
    · simp (disch := first | assumption | omega) only [fX7_writeRow_17, nR1, nA1, nU1, nR2, nA2, nU2, nR3, nA3, nU3, nR4, nA4, nU4, nR5, nA5, nU5, nR6, nA6, nU6, nR7, nA7, nU7, nR8, nA8, nU8, nR9, nA9, nU9, nR10, nA10, nU10, nR11, nA11, nU11, nR12, nA12, nU12, nR13, nA13, nU13, nR14, nA14, nU14, nR15, nA15, nU15, nR16, nA16, nU16, nI0, nS0, nI1, nS1, nI2, nS2, nI3, nS3, nI4, nS4, nI5, nS5, nI6, nS6, nI7, nS7, nI8, nS8, nI9, nS9, nI15, nS15, nI18, nS18, nI19, nS19, nI20, nS20, nI21, nS21, nI22, nS22, nI23, nS23, nI24, nS24, nI25, nS25, nI26, nS26, nI27, nS27, nI32, nS32, nI36, nS36, nI37, nS37, nI40, nS40, nSZ1, nV, nC, ↓reduceIte, tr_lt, fa_lt, tr_le, fa_le, tr_eq, fa_eq, and_true, true_and, and_false, false_and, il0, il1, il2, il3, il4, il5, il6, il7, il8, il9, il10, il11, il12, il15, il16, il20, il24, il31, il32, il44, il45, il48, il50, il57, il58, il59, il63, il91, il93, il97, il99, il100, il109, il113, il119, il120, il122, il200, il255, il480, il500, il501, il512, il999, il4112, il41120, il1000000, il1000003, ii_add, ii_sub, ii_mul, ii_neg, ii_le, ii_lt, ii_eq, ii_div, q_I, q_V, q_R, lt_q, rZ_q, md_M, md_16, md_4, md_8, md_10, if_true, if_false, if_pos, if_neg, mg_3, mg_0, mg_1, mg_2, mg_k, mg_up3, mg_upk, e_of, e1, f1, g1, i1]
  · rintro n M1 ⟨hI, hT, hL⟩
    refine ⟨M1, ?_, hT, hL⟩
    simp (disch := first | assumption | omega) only [fX7_writeRow_17, nR1, nA1, nU1, nR2, nA2, nU2, nR3, nA3, nU3, nR4, nA4, nU4, nR5, nA5, nU5, nR6, nA6, nU6, nR7, nA7, nU7, nR8, nA8, nU8, nR9, nA9, nU9, nR10, nA10, nU10, nR11, nA11, nU11, nR12, nA12, nU12, nR13, nA13, nU13, nR14, nA14, nU14, nR15, nA15, nU15, nR16, nA16, nU16, nI0, nS0, nI1, nS1, nI2, nS2, nI3, nS3, nI4, nS4, nI5, nS5, nI6, nS6, nI7, nS7, nI8, nS8, nI9, nS9, nI15, nS15, nI18, nS18, nI19, nS19, nI20, nS20, nI21, nS21, nI22, nS22, nI23, nS23, nI24, nS24, nI25, nS25, nI26, nS26, nI27, nS27, nI32, nS32, nI36, nS36, nI37, nS37, nI40, nS40, nSZ1, nV, nC, ↓reduceIte, tr_lt, fa_lt, tr_le, fa_le, tr_eq, fa_eq, and_true, true_and, and_false, false_and, il0, il1, il2, il3, il4, il5, il6, il7, il8, il9, il10, il11, il12, il15, il16, il20, il24, il31, il32, il44, il45, il48, il50, il57, il58, il59, il63, il91, il93, il97, il99, il100, il109, il113, il119, il120, il122, il200, il255, il480, il500, il501, il512, il999, il4112, il41120, il1000000, il1000003, ii_add, ii_sub, ii_mul, ii_neg, ii_le, ii_lt, ii_eq, ii_div, q_I, q_V, q_R, lt_q, rZ_q, md_M, md_16, md_4, md_8, md_10, if_true, if_false, if_pos, if_neg, mg_3, mg_0, mg_1, mg_2, mg_k, mg_up3, mg_upk, e_of]
theorem m_piLoop (h : TM M p) (hp : 0 ≤ p.1 ∧ p.1 ≤ 100) (hg : RG g r) (hr : 0 ≤ r ∧ r < 8) (hM : SA M) : ∃ M', fX7_writeRow_63 FU 0 (ii r) (ii 0) (NW K (mg M g)) = fX7_writeRow_96 0 (ii r) (NW K (mg M' g)) ∧ TM M' (piP (M 1) (M 2) g r p (cel g r 1).toNat) ∧ FM M M' := by
  have h0 := hg.2.1
  refine lp (fun n i (s : AI) => fX7_writeRow_63 n 0 (ii r) (ii i) (NW K (mg s g))) (fun x => ∃ M', x = fX7_writeRow_96 0 (ii r) (NW K (mg M' g)) ∧ TM M' (piP (M 1) (M 2) g r p (cel g r 1).toNat) ∧ FM M M')
    (fun i s => 0 ≤ i ∧ TM s (piP (M 1) (M 2) g r p i.toNat) ∧ FM M s) (cel g r 1) ?_ ?_ FU 0 M (by omega) ⟨by omega, h, FM.refl _⟩ (by have := FU_e; omega)
  · rintro n i M1 hi ⟨hI, hT, hL⟩
    have hb := piP_b (met := M 1) (len := M 2) (p := p) hg (fun k a b => (hM.2.2.1 k a b).2) hp.1 i.toNat (by omega)
    have hb1 := tB_b (piP (M 1) (M 2) g r p i.toNat)
    have hv := hg.2.2.2.1 i hI hi
    have hm1 := hM.2.1 _ hv.1 hv.2
    have hm2 := hM.2.2.1 _ hv.1 hv.2
    obtain ⟨M2, e1, e2, e3⟩ := m_blank (K := K) (g := g) hT (by omega)
    have hF := hL.trans e3
    have d1 : M2 1 = M 1 := funext fun z => hF.2 1 z (by omega) (by omega)
    have d2 : M2 2 = M 2 := funext fun z => hF.2 2 z (by omega) (by omega)
    obtain ⟨M3, f1, f2, f3⟩ := m_kind (K := K) (g := g) e2 (by omega) (cel g r (11 + i)) hv (by rw [d1]; exact hm1) (by rw [d2]; exact hm2)
    rw [d1, d2] at f2
    refine Or.inr ⟨M3, ⟨by omega, ?_, hF.trans f3⟩, ?_⟩
    · rw [piP_s _ _ g r p i hI]; exact f2
    · simp (disch := first | assumption | omega) only [fX7_writeRow_63, nR1, nA1, nU1, nR2, nA2, nU2, nR3, nA3, nU3, nR4, nA4, nU4, nR5, nA5, nU5, nR6, nA6, nU6, nR7, nA7, nU7, nR8, nA8, nU8, nR9, nA9, nU9, nR10, nA10, nU10, nR11, nA11, nU11, nR12, nA12, nU12, nR13, nA13, nU13, nR14, nA14, nU14, nR15, nA15, nU15, nR16, nA16, nU16, nI0, nS0, nI1, nS1, nI2, nS2, nI3, nS3, nI4, nS4, nI5, nS5, nI6, nS6, nI7, nS7, nI8, nS8, nI9, nS9, nI15, nS15, nI18, nS18, nI19, nS19, nI20, nS20, nI21, nS21, nI22, nS22, nI23, nS23, nI24, nS24, nI25, nS25, nI26, nS26, nI27, nS27, nI32, nS32, nI36, nS36, nI37, nS37, nI40, nS40, nSZ1, nV, nC, ↓reduceIte, tr_lt, fa_lt, tr_le, fa_le, tr_eq, fa_eq, and_true, true_and, and_false, false_and, il0, il1, il2, il3, il4, il5, il6, il7, il8, il9, il10, il11, il12, il15, il16, il20, il24, il31, il32, il44, il45, il48, il50, il57, il58, il59, il63, il91, il93, il97, il99, il100, il109, il113, il119, il120, il122, il200, il255, il480, il500, il501, il512, il999, il4112, il41120, il1000000, il1000003, ii_add, ii_sub, ii_mul, ii_neg, ii_le, ii_lt, ii_eq, ii_div, q_I, q_V, q_R, lt_q, rZ_q, md_M, md_16, md_4, md_8, md_10, if_true, if_false, if_pos, if_neg, mg_3, mg_0, mg_1, mg_2, mg_k, mg_up3, mg_upk, e_of, e1, f1]
  · rintro n M1 ⟨hI, hT, hL⟩
    refine ⟨M1, ?_, hT, hL⟩
    simp (disch := first | assumption | omega) only [fX7_writeRow_63, nR1, nA1, nU1, nR2, nA2, nU2, nR3, nA3, nU3, nR4, nA4, nU4, nR5, nA5, nU5, nR6, nA6, nU6, nR7, nA7, nU7, nR8, nA8, nU8, nR9, nA9, nU9, nR10, nA10, nU10, nR11, nA11, nU11, nR12, nA12, nU12, nR13, nA13, nU13, nR14, nA14, nU14, nR15, nA15, nU15, nR16, nA16, nU16, nI0, nS0, nI1, nS1, nI2, nS2, nI3, nS3, nI4, nS4, nI5, nS5, nI6, nS6, nI7, nS7, nI8, nS8, nI9, nS9, nI15, nS15, nI18, nS18, nI19, nS19, nI20, nS20, nI21, nS21, nI22, nS22, nI23, nS23, nI24, nS24, nI25, nS25, nI26, nS26, nI27, nS27, nI32, nS32, nI36, nS36, nI37, nS37, nI40, nS40, nSZ1, nV, nC, ↓reduceIte, tr_lt, fa_lt, tr_le, fa_le, tr_eq, fa_eq, and_true, true_and, and_false, false_and, il0, il1, il2, il3, il4, il5, il6, il7, il8, il9, il10, il11, il12, il15, il16, il20, il24, il31, il32, il44, il45, il48, il50, il57, il58, il59, il63, il91, il93, il97, il99, il100, il109, il113, il119, il120, il122, il200, il255, il480, il500, il501, il512, il999, il4112, il41120, il1000000, il1000003, ii_add, ii_sub, ii_mul, ii_neg, ii_le, ii_lt, ii_eq, ii_div, q_I, q_V, q_R, lt_q, rZ_q, md_M, md_16, md_4, md_8, md_10, if_true, if_false, if_pos, if_neg, mg_3, mg_0, mg_1, mg_2, mg_k, mg_up3, mg_upk, e_of]
theorem m_rowEnd (h : TM M p) (hp : 0 ≤ p.1 ∧ p.1 ≤ 2900) (hg : RG g r) (hr : 0 ≤ r ∧ r < 8) : ∃ M', fX7_writeRow_96 0 (ii r) (NW K (mg M g)) = some (Sum.inl (some (Value.int (ii ((if cel g r 2 = -1 then p else tQ (cel g r 2) p).1)))), NW K (mg M' g)) ∧ TM M' (if cel g r 2 = -1 then p else tQ (cel g r 2) p) ∧ FM M M' := by
  have h7 := hg.2.2.2.2.1
  obtain ⟨M', e1, e2, e3⟩ := m_quoin (K := K) (g := g) h (by omega) (cel g r 2) h7
  have h40 := e2.1
  refine ⟨M', ?_, e2, e3⟩
  simp (disch := first | assumption | omega) only [fX7_writeRow_96, nR1, nA1, nU1, nR2, nA2, nU2, nR3, nA3, nU3, nR4, nA4, nU4, nR5, nA5, nU5, nR6, nA6, nU6, nR7, nA7, nU7, nR8, nA8, nU8, nR9, nA9, nU9, nR10, nA10, nU10, nR11, nA11, nU11, nR12, nA12, nU12, nR13, nA13, nU13, nR14, nA14, nU14, nR15, nA15, nU15, nR16, nA16, nU16, nI0, nS0, nI1, nS1, nI2, nS2, nI3, nS3, nI4, nS4, nI5, nS5, nI6, nS6, nI7, nS7, nI8, nS8, nI9, nS9, nI15, nS15, nI18, nS18, nI19, nS19, nI20, nS20, nI21, nS21, nI22, nS22, nI23, nS23, nI24, nS24, nI25, nS25, nI26, nS26, nI27, nS27, nI32, nS32, nI36, nS36, nI37, nS37, nI40, nS40, nSZ1, nV, nC, ↓reduceIte, tr_lt, fa_lt, tr_le, fa_le, tr_eq, fa_eq, and_true, true_and, and_false, false_and, il0, il1, il2, il3, il4, il5, il6, il7, il8, il9, il10, il11, il12, il15, il16, il20, il24, il31, il32, il44, il45, il48, il50, il57, il58, il59, il63, il91, il93, il97, il99, il100, il109, il113, il119, il120, il122, il200, il255, il480, il500, il501, il512, il999, il4112, il41120, il1000000, il1000003, ii_add, ii_sub, ii_mul, ii_neg, ii_le, ii_lt, ii_eq, ii_div, q_I, q_V, q_R, lt_q, rZ_q, md_M, md_16, md_4, md_8, md_10, if_true, if_false, if_pos, if_neg, mg_3, mg_0, mg_1, mg_2, mg_k, mg_up3, mg_upk, e_of, e1, h40]
end TX8
section TX9
variable {C0 N0 n : Nat} {K : Nat × Nat} {c : CC} {A : AI} {J : JI} {M : AI} {g g' o : Int → Int} {pl sp tv cap : Nat} {f B : Int}
theorem tQ_b (o : Int) (p : TP) (ho : o < 100) : (tQ o p).1 ≤ p.1 + 4 := by
  have h1 := tB_b p
  have h2 := nd_2 o ho
  show (tB p).1 + 1 + nd o ≤ _
  omega
theorem g_writeRow_1 (hI : Inv C0 N0 n pl sp tv cap c A J M g) (r : Int) (hl : M 0 1 = 1) (hr : 0 ≤ r ∧ r < up M 0 0 0 0 3) : Good C0 N0 n K (fL_writeRow 0 (ii r) 455 (CW c A J)) (fX7_writeRow 0 (ii r) (NW K (mg M g))) := by
  have hk := hI.1
  have hRd : isReader c 1 := hk.2.1.1
  have hSv : isSolver c 4 := hk.2.1.2.1
  have hHi : isHist c 21 := hk.2.1.2.2.1
  have hNow : isState c 303 := hk.2.1.2.2.2.1
  have hSpr : isState c 338 := hk.2.1.2.2.2.2.1
  have hPl : isPlan c pl := hk.2.2.2.1.2.1
  have h00 : up M 0 0 0 0 0 = 0 := up_s _ _ _ _
  obtain ⟨h10, hM, hP, hS, hG⟩ := hI.ld hl
  obtain ⟨p0, p1, p2, p3, p4, p5, p6, p7⟩ := hP.1
  have hc1 := c_chase1 (A := A) (J := J) hk h10
  have e3 : up M 0 0 0 0 3 = M 0 3 := up_n _ _ _ _ _ _ (by omega)
  have e9 : up M 0 0 0 0 9 = M 0 9 := up_n _ _ _ _ _ _ (by omega)
  have h38 := hM.1.2.1
  have h910 := hM.1.2.2.2.2.2.2.2
  have hcr := c_row1 (A := A) (J := J) hk h10 r (by rw [p1]; exact hr) (by rw [p1]; exact h38.2)
  have hmr := e_noRow1 (K := K) (M := M) (g := g) hl r (by rw [← e3]; exact hr) (by rw [← e3]; exact h38.2)
  have hr8 : 0 ≤ r ∧ r < 8 := by omega
  have hR := hNow.row r hr8
  have hrr := hS.2 r hr.1 (by omega)
  have hgr := hG.1.1 r hr.1 (by omega)
  have hI0 := hI.thr 0
  have hl0 : up M 0 0 0 0 1 = 1 := (up_n _ _ _ _ _ _ (by omega)).trans hl
  have hap := hk.2.2.2.1.1
  have hkb := hG.1.2.2.2.1 r hr.1 hr8.2
  have h7 := hgr.2.2.2.2.1
  obtain ⟨A1, s1, s2, s3⟩ := t_set0 (J := J) hI.ts
  have hL1 : TL c c cap cap A A1 J J := ⟨⟨Nat.le_refl _, Nat.le_refl _, Nat.le_refl _⟩, ⟨Nat.le_refl _, Nat.le_refl _, Nat.le_refl _⟩, fun b z q => s3 b z (by omega), fun _ _ _ => rfl⟩
  have hb1 := blP_b hgr (cel g r 0).toNat (by have := hgr.1; omega)
  have hb2 := piP_b (met := up M 0 0 0 1) (len := up M 0 0 0 2) (p := blP g r (cel g r 0).toNat) hgr (fun k a b => (hM.2.2.1 k a b).2) hb1.1 (cel g r 1).toNat (by have := hgr.2.1; omega)
  have hb3 : (if cel g r 2 = -1 then piP (up M 0 0 0 1) (up M 0 0 0 2) g r (blP g r (cel g r 0).toNat) (cel g r 1).toNat else tQ (cel g r 2) (piP (up M 0 0 0 1) (up M 0 0 0 2) g r (blP g r (cel g r 0).toNat) (cel g r 1).toNat)).1 ≤ 2900 := by
    have h0 := hgr.1
    have h1 := hgr.2.1
    have := tQ_b (cel g r 2) (piP (up M 0 0 0 1) (up M 0 0 0 2) g r (blP g r (cel g r 0).toNat) (cel g r 1).toNat) (by omega)
    split <;> omega
  have h0 := hgr.1
  have h1 := hgr.2.1
  obtain ⟨c2, A2, J2, tv2, cap2, e1, e2, e3⟩ := c_blLoop (J := J) s2 (hL1.rr hrr hgr hr8) hgr hr8
  have hL2 := hL1.trans e3
  obtain ⟨c3, A3, J3, tv3, cap3, f1, f2, f3⟩ := c_piLoop (J := J2) e2 (by omega) (hL2.rr hrr hgr hr8) hgr hr8 (hL2.pr hap hP) hM hkb
  have hL3 := hL2.trans f3
  obtain ⟨c4, A4, J4, tv4, cap4, g1, g2, g3⟩ := c_rowEnd (J := J3) f2 (by omega) (hL3.rr hrr hgr hr8) hgr hr8
  have hL4 := hL3.trans g3
  have hF0 : FM (up M 0 0 0) (up (up M 0 0 0) 0 40 0) := ⟨fun z q => up_n _ _ _ _ _ _ (fun e => q e.2), fun b z q _ => up_n _ _ _ _ _ _ (by omega)⟩
  have hT0 : TM (up (up M 0 0 0) 0 40 0) tP0 := ⟨up_s _ _ _ _, fun k a b => by have b' : k < 0 := b; omega⟩
  obtain ⟨M2, i1, i2, i3⟩ := m_blLoop (K := K) hT0 hgr hr8
  have hF2 := hF0.trans i3
  have d1 : M2 1 = up M 0 0 0 1 := funext fun z => hF2.2 1 z (by omega) (by omega)
  have d2 : M2 2 = up M 0 0 0 2 := funext fun z => hF2.2 2 z (by omega) (by omega)
  have hM2 : SA M2 := hM.at (fun z a b => hF2.1 z (by omega)) d1 d2
  obtain ⟨M3, j1, j2, j3⟩ := m_piLoop (K := K) i2 (by omega) hgr hr8 hM2
  rw [d1, d2] at j2
  obtain ⟨M4, k1, k2, k3⟩ := m_rowEnd (K := K) j2 (by omega) hgr hr8
  have hF4 := (hF2.trans j3).trans k3
  refine Good_txt hI (v := (if cel g r 2 = -1 then piP (up M 0 0 0 1) (up M 0 0 0 2) g r (blP g r (cel g r 0).toNat) (cel g r 1).toNat else tQ (cel g r 2) (piP (up M 0 0 0 1) (up M 0 0 0 2) g r (blP g r (cel g r 0).toNat) (cel g r 1).toNat)).1) (c' := c4) (A' := A4) (J' := J4) (M' := M4) ?_ ?_ ((hF4.1 0 (by omega)).trans h00) hL4.1 (hI0.txt g2 hL4 k2 hF4 hb3).one
  · rw [fX6_writeRow, lkV hk, hcr, k_C, q_R, lkR7 hk, sbV hk, il0, s1, k_C, q_V, e1, fX6_writeRow_67, il0, f1, g1]
  · rw [fX7_writeRow, nV, hmr, nC, q_I, if_pos i00, il0, nS40, mg_upk _ _ _ _ _ (by omega), i1, fX7_writeRow_61, il0, j1, k1]
theorem g_writeRow (hI : Inv C0 N0 n pl sp tv cap c A J M g) (r : Int) (hrb : -2147483648 ≤ r ∧ r < 2147483648) : Good C0 N0 n K (fL_writeRow 0 (ii r) 455 (CW c A J)) (fX7_writeRow 0 (ii r) (NW K (mg M g))) := by
  have hk := hI.1
  have hRd : isReader c 1 := hk.2.1.1
  have hSv : isSolver c 4 := hk.2.1.2.1
  have hHi : isHist c 21 := hk.2.1.2.2.1
  have hNow : isState c 303 := hk.2.1.2.2.2.1
  have hSpr : isState c 338 := hk.2.1.2.2.2.2.1
  have hPl : isPlan c pl := hk.2.2.2.1.2.1
  have h00 : up M 0 0 0 0 0 = 0 := up_s _ _ _ _
  by_cases hl : M 0 1 = 1
  · obtain ⟨h10, hM, hP, hS, hG⟩ := hI.ld hl
    obtain ⟨p0, p1, p2, p3, p4, p5, p6, p7⟩ := hP.1
    have hc1 := c_chase1 (A := A) (J := J) hk h10
    have e3 : up M 0 0 0 0 3 = M 0 3 := up_n _ _ _ _ _ _ (by omega)
    have e9 : up M 0 0 0 0 9 = M 0 9 := up_n _ _ _ _ _ _ (by omega)
    have h38 := hM.1.2.1
    have h910 := hM.1.2.2.2.2.2.2.2
    by_cases hr : 0 ≤ r ∧ r < up M 0 0 0 0 3
    · exact g_writeRow_1 hI r hl hr
    · refine Good_no (code := 2) hI (E := "java/lang/IndexOutOfBoundsException") (A' := A) (J' := J) ?_ (frm.refl _ _ _) (fun τ => (hF2 _ _ _ _ _ _ (by decide)).trans (hF1 _ _ 2 rfl _ _ _)) (by omega) (v := 0) ?_
      · have hcr := c_row0 (A := A) (J := J) hk h10 r (by rw [p1]; exact hr) (by rw [p1]; omega) (by omega)
        rw [fX6_writeRow, lkV hk, hcr, k_E]
      · have hmr := e_noRow0 (K := K) (M := M) (g := g) hl r (by rw [← e3]; exact hr) (by rw [← e3]; omega) (by omega)
        rw [fX7_writeRow, nV, hmr, nC, q_I, if_neg (show ¬ ii 1 = (0 : Int32) by decide)]
        rfl
  · obtain ⟨h10, h1⟩ := hI.nl hl
    refine Good_nl hI (v := 0) ?_ (hF_IS _ 1 rfl _ _) ?_
    · rw [fX6_writeRow, lkV hk, c_rowN hk h10, k_E]
    · rw [fX7_writeRow, nV, e_noRowN h1, nC, q_I, if_neg (show ¬ ii 1 = (0 : Int32) by decide)]
      rfl
theorem t_char {p : TP} (h : TS c A pl sp tv cap p) (i : Int) (hi : 0 ≤ i ∧ i < p.1) : fJ4_charAt_5068e 375 (ii i) (CW c A J) = some (Sum.inl (some (Value.int (ii (p.2 i)))), CW c A J) := by
  obtain ⟨hk, ⟨a3, a1⟩, ⟨l0, l1, l2, l3, l4⟩, ht, hb⟩ := h
  have e := ht i hi.1 hi.2
  have hv := hb i hi.1 (by omega)
  rw [e] at hv
  have hch := b_ch (p.2 i) hv
  have hci : ∀ W : AS, fJ0_checkIndex_df160 (ii i) (ii p.1) (CW c A J) = some (Sum.inl none, CW c A J) := fun _ => by
    have h1 : fJ3_checkIndex_8e157 (ii i) (ii p.1) 4000000 (CW c A J) = some (Sum.inl (some (Value.int (ii (i)))), CW c A J) := by
      rw [fJ3_checkIndex_8e157, il0, if_neg (by rw [ii_lt _ _ (by omega)]; omega), if_pos (by rw [ii_lt _ _ (by omega)]; omega)]
    rw [fJ0_checkIndex_df160, h1, k_C, q_I]
  have h5 : fJ5_charAt_5068e 375 (ii i) (CW c A J) = some (Sum.inl (some (Value.int (ii (p.2 i)))), CW c A J) := by
    by_cases y : (cap : Int) < p.1
    · omega
    · rw [fJ5_charAt_5068e, sbI1 hk, a1, sbR0 hk, sbI3 hk, a3, sbL hk, il31, shr0, lt_q, if_neg (by rw [ii_lt _ _ (by omega)]; exact y), hci (CW c A J), k_C, q_V, if_pos i00, k_aI hk.2.2.2.2.1.2.2.1 i (by omega), e, hch.1]
      show some (Sum.inl (some (Value.int (((ii (p.2 i)).toUInt32 % 65536).toInt32))), CW c A J) = _
      rw [hch.2]
  rw [fJ4_charAt_5068e, sbV hk, h5, k_C, q_I]
  show some (Sum.inl (some (Value.int (((ii (p.2 i)).toUInt32 % 65536).toInt32))), CW c A J) = _
  rw [hch.2]
theorem g_textByte (hI : Inv C0 N0 n pl sp tv cap c A J M g) (i : Int) (hib : -2147483648 ≤ i ∧ i < 2147483648) : Good C0 N0 n K (fL_textByte 0 (ii i) 455 (CW c A J)) (fX7_textByte 0 (ii i) (NW K (mg M g))) := by
  have hk := hI.1
  have hRd : isReader c 1 := hk.2.1.1
  have hSv : isSolver c 4 := hk.2.1.2.1
  have hHi : isHist c 21 := hk.2.1.2.2.1
  have hNow : isState c 303 := hk.2.1.2.2.2.1
  have hSpr : isState c 338 := hk.2.1.2.2.2.2.1
  have hPl : isPlan c pl := hk.2.2.2.1.2.1
  have h00 : up M 0 0 0 0 0 = 0 := up_s _ _ _ _
  have hT := hI.ts
  have hl := t_len (J := J) hk _ hT.2.1.1
  have hL := hI.2.2.2.2.2.1.1
  have e40 : up M 0 0 0 0 40 = M 0 40 := up_n _ _ _ _ _ _ (by omega)
  have e16 : up M 0 0 0 16 i = M 16 i := up_n _ _ _ _ _ _ (by omega)
  have hin := e_in i 0 (M 0 40 - 1) (by omega) (NW K (mg (up M 0 0 0) g))
  by_cases q : 0 ≤ i ∧ i < M 0 40
  · rw [if_pos (by omega)] at hin
    have hch := t_char (J := J) hT i q
    have hix := c_index1 i (M 0 40) q (by omega) (CW c A J)
    refine Good_read hI (v := M 16 i) (A' := A) (J' := J) (M' := up M 0 0 0) ?_ (frm.refl _ _ _) ?_ (scr.refl _) h00
    · rw [fX6_textByte, lkR7 hk, sbV hk, hl, k_C, q_I, hix, k_C, q_V, lkR7 hk, sbV hk, hch, k_C, q_I]
    · simp (disch := first | assumption | omega) only [fX7_textByte, fX7_textByte_25, nR1, nA1, nU1, nR2, nA2, nU2, nR3, nA3, nU3, nR4, nA4, nU4, nR5, nA5, nU5, nR6, nA6, nU6, nR7, nA7, nU7, nR8, nA8, nU8, nR9, nA9, nU9, nR10, nA10, nU10, nR11, nA11, nU11, nR12, nA12, nU12, nR13, nA13, nU13, nR14, nA14, nU14, nR15, nA15, nU15, nR16, nA16, nU16, nI0, nS0, nI1, nS1, nI2, nS2, nI3, nS3, nI4, nS4, nI5, nS5, nI6, nS6, nI7, nS7, nI8, nS8, nI9, nS9, nI15, nS15, nI18, nS18, nI19, nS19, nI20, nS20, nI21, nS21, nI22, nS22, nI23, nS23, nI24, nS24, nI25, nS25, nI26, nS26, nI27, nS27, nI32, nS32, nI36, nS36, nI37, nS37, nI40, nS40, nSZ1, nV, nC, ↓reduceIte, tr_lt, fa_lt, tr_le, fa_le, tr_eq, fa_eq, and_true, true_and, and_false, false_and, il0, il1, il2, il3, il4, il5, il6, il7, il8, il9, il10, il11, il12, il15, il16, il20, il24, il31, il32, il44, il45, il48, il50, il57, il58, il59, il63, il91, il93, il97, il99, il100, il109, il113, il119, il120, il122, il200, il255, il480, il500, il501, il512, il999, il4112, il41120, il1000000, il1000003, ii_add, ii_sub, ii_mul, ii_neg, ii_le, ii_lt, ii_eq, ii_div, q_I, q_V, q_R, lt_q, rZ_q, md_M, md_16, md_4, md_8, md_10, if_true, if_false, if_pos, if_neg, mg_3, mg_0, mg_1, mg_2, mg_k, mg_up3, mg_upk, e40, hin, e_ref0, e16]
  · rw [if_neg (by omega)] at hin
    have hci := c_index0 (c := c) (A := A) (J := J) i (M 0 40) q (by omega) hib
    have hrf := e_ref1 (K := K) (M := up M 0 0 0) (g := g) h00 1 (by omega)
    refine Good_no (code := 1) hI (E := "java/lang/IndexOutOfBoundsException") (A' := A) (J' := J) ?_ (frm.refl _ _ _) (fun τ => hF1 _ _ 1 rfl _ _ _) (by omega) (v := 0) ?_
    · rw [fX6_textByte, lkR7 hk, sbV hk, hl, k_C, q_I, hci, k_E]
    · simp (disch := first | assumption | omega) only [fX7_textByte, nR1, nA1, nU1, nR2, nA2, nU2, nR3, nA3, nU3, nR4, nA4, nU4, nR5, nA5, nU5, nR6, nA6, nU6, nR7, nA7, nU7, nR8, nA8, nU8, nR9, nA9, nU9, nR10, nA10, nU10, nR11, nA11, nU11, nR12, nA12, nU12, nR13, nA13, nU13, nR14, nA14, nU14, nR15, nA15, nU15, nR16, nA16, nU16, nI0, nS0, nI1, nS1, nI2, nS2, nI3, nS3, nI4, nS4, nI5, nS5, nI6, nS6, nI7, nS7, nI8, nS8, nI9, nS9, nI15, nS15, nI18, nS18, nI19, nS19, nI20, nS20, nI21, nS21, nI22, nS22, nI23, nS23, nI24, nS24, nI25, nS25, nI26, nS26, nI27, nS27, nI32, nS32, nI36, nS36, nI37, nS37, nI40, nS40, nSZ1, nV, nC, ↓reduceIte, tr_lt, fa_lt, tr_le, fa_le, tr_eq, fa_eq, and_true, true_and, and_false, false_and, il0, il1, il2, il3, il4, il5, il6, il7, il8, il9, il10, il11, il12, il15, il16, il20, il24, il31, il32, il44, il45, il48, il50, il57, il58, il59, il63, il91, il93, il97, il99, il100, il109, il113, il119, il120, il122, il200, il255, il480, il500, il501, il512, il999, il4112, il41120, il1000000, il1000003, ii_add, ii_sub, ii_mul, ii_neg, ii_le, ii_lt, ii_eq, ii_div, q_I, q_V, q_R, lt_q, rZ_q, md_M, md_16, md_4, md_8, md_10, if_true, if_false, if_pos, if_neg, mg_3, mg_0, mg_1, mg_2, mg_k, mg_up3, mg_upk, e40, hin]
      rw [fX7_textByte_25, nV, il1, hrf, nC, q_I, if_neg (show ¬ ii 1 = (0 : Int32) by decide), up_up]
      rfl
end TX9
