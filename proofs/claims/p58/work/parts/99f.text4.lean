/-! TEXTS, IV: writeRow -/
def blP (g : Int → Int) (r : Int) : Nat → TP
  | 0 => tP0
  | i + 1 => tC 93 (tN (cel g r (5 + i)) (tC 91 (tB (blP g r i))))
def piP (met len g : Int → Int) (r : Int) (p : TP) : Nat → TP
  | 0 => p
  | i + 1 => tK met len (cel g r (11 + i)) (tB (piP met len g r p i))
theorem blP_s (g : Int → Int) (r i : Int) (h : 0 ≤ i) : blP g r (i + 1).toNat = tC 93 (tN (cel g r (5 + i)) (tC 91 (tB (blP g r i.toNat)))) := by
  rw [show (i + 1).toNat = i.toNat + 1 by omega]
  show tC 93 (tN (cel g r (5 + (i.toNat : Int))) (tC 91 (tB (blP g r i.toNat)))) = _
  rw [show ((i.toNat : Nat) : Int) = i by omega]
theorem piP_s (met len g : Int → Int) (r : Int) (p : TP) (i : Int) (h : 0 ≤ i) : piP met len g r p (i + 1).toNat = tK met len (cel g r (11 + i)) (tB (piP met len g r p i.toNat)) := by
  rw [show (i + 1).toNat = i.toNat + 1 by omega]
  show tK met len (cel g r (11 + (i.toNat : Int))) (tB (piP met len g r p i.toNat)) = _
  rw [show ((i.toNat : Nat) : Int) = i by omega]
theorem tK_1 (met len : Int → Int) (k : Int) (p : TP) : (tK met len k p).1 = p.1 + 1 + nd (len k) := rfl
theorem blP_b {g : Int → Int} {r : Int} (hg : RG g r) : ∀ i : Nat, (i : Int) ≤ cel g r 0 → 0 ≤ (blP g r i).1 ∧ (blP g r i).1 ≤ 6 * i
  | 0, _ => by show 0 ≤ (0 : Int) ∧ (0 : Int) ≤ _; omega
  | i + 1, h => by
    have ih := blP_b hg i (by omega)
    have h1 := tB_b (blP g r i)
    have h2 := hg.2.2.1 i (by omega) (by omega)
    have h3 := nd_3 (cel g r (5 + i)) (by omega)
    have h4 := nd_b (cel g r (5 + i))
    show 0 ≤ (tB (blP g r i)).1 + 1 + nd (cel g r (5 + i)) + 1 ∧ (tB (blP g r i)).1 + 1 + nd (cel g r (5 + i)) + 1 ≤ _
    omega
theorem piP_b {met len g : Int → Int} {r : Int} {p : TP} (hg : RG g r) (hl : ∀ k, 0 ≤ k → k < 10 → len k ≤ 99) (hp : 0 ≤ p.1) : ∀ i : Nat, (i : Int) ≤ cel g r 1 → 0 ≤ (piP met len g r p i).1 ∧ (piP met len g r p i).1 ≤ p.1 + 4 * i
  | 0, _ => by show 0 ≤ p.1 ∧ p.1 ≤ _; omega
  | i + 1, h => by
    have ih := piP_b (met := met) (len := len) hg hl hp i (by omega)
    have h1 := tB_b (piP met len g r p i)
    have h2 := hg.2.2.2.1 i (by omega) (by omega)
    have h3 := nd_2 (len (cel g r (11 + i))) (by have := hl _ h2.1 h2.2; omega)
    have h4 := nd_b (len (cel g r (11 + i)))
    show 0 ≤ (tK met len (cel g r (11 + i)) (tB (piP met len g r p i))).1 ∧ (tK met len (cel g r (11 + i)) (tB (piP met len g r p i))).1 ≤ _
    rw [tK_1]
    omega
section TX7
variable {c c' c2 : CC} {A A' A2 : AI} {J J' J2 : JI} {pl sp tv cap tv' cap' tv2 cap2 : Nat} {p : TP} {len g : Int → Int} {r : Int} {M : AI}
theorem TL.rr (h : TL c c' cap cap' A A' J J') (hrr : RR A J (rc 303 r) len g r) (hg : RG g r) (hr : 0 ≤ r ∧ r < 8) : RR A' J' (rc 303 r) len g r :=
  RR.frame hrr hg (fun b z hb => h.2.2.1 b z (by unfold inR rc at hb; omega)) (fun b z hb => h.2.2.2.1 b z (by unfold inR rc at hb; omega)) (fun _ _ _ => rfl)
theorem TL.pr (h : TL c c' cap cap' A A' J J') (hap : pl = 377 ∧ sp = 381 ∨ pl = 381 ∧ sp = 377) (hP : PR A pl M) : PR A' pl M := PR_frm hP (fun b z hb => h.2.2.1 b z (by omega))
theorem isLock.now (h : isLock c pl sp tv cap) (hr : 0 ≤ r ∧ r < 8) : isRow c (rc 303 r) := h.2.1.2.2.2.1.row r hr
theorem c_blLoop (h : TS c A pl sp tv cap tP0) (hrr : RR A J (rc 303 r) len g r) (hg : RG g r) (hr : 0 ≤ r ∧ r < 8) : ∃ (c' : CC) (A' : AI) (J' : JI) (tv' cap' : Nat), fX6_writeRow_16 FU 0 (rc 303 r) (ii 0) (CW c A J) = fX6_writeRow_67 0 (rc 303 r) (CW c' A' J') ∧ TS c' A' pl sp tv' cap' (blP g r (cel g r 0).toNat) ∧ TL c c' cap cap' A A' J J' := by
  have h0 := hg.1
  refine lp (fun n i (s : CC × AI × JI) => fX6_writeRow_16 n 0 (rc 303 r) (ii i) (CW s.1 s.2.1 s.2.2)) (fun x => ∃ (c' : CC) (A' : AI) (J' : JI) (tv' cap' : Nat), x = fX6_writeRow_67 0 (rc 303 r) (CW c' A' J') ∧ TS c' A' pl sp tv' cap' (blP g r (cel g r 0).toNat) ∧ TL c c' cap cap' A A' J J')
    (fun i s => 0 ≤ i ∧ ∃ tv' cap' : Nat, TS s.1 s.2.1 pl sp tv' cap' (blP g r i.toNat) ∧ TL c s.1 cap cap' A s.2.1 J s.2.2) (cel g r 0) ?_ ?_ FU 0 (c, A, J) (by omega) ⟨by omega, tv, cap, h, TL.refl _ _ _ _⟩ (by have := FU_e; omega)
  · rintro n i ⟨c1, A1, J1⟩ hi ⟨hI, tv1, cap1, hT, hL⟩
    dsimp only at hT hL ⊢
    have hk1 := hT.1
    have hb := blP_b hg i.toNat (by omega)
    have hb1 := tB_b (blP g r i.toNat)
    have hv := hg.2.2.1 i hI hi
    have hnd := nd_b (cel g r (5 + i))
    have hR1 := hk1.now hr
    have x1 := (hL.rr hrr hg hr).1.1
    obtain ⟨c2, A2, J2, tv2, cap2, e1, e2, e3⟩ := c_gapB (J := J1) hT (by omega)
    obtain ⟨c3, A3, J3, tv3, cap3, f1, f2, f3⟩ := t_app (J := J2) e2 91 (by omega) (by omega)
    have hba := c_blockAt (c := c3) (f2.1.now hr) (((hL.trans e3).trans f3).rr hrr hg hr) hg i ⟨hI, hi⟩
    obtain ⟨c4, A4, J4, tv4, cap4, g1, g2, g3⟩ := t_num (J := J3) f2 (cel g r (5 + i)) (by omega) (by rw [tC_1]; omega)
    obtain ⟨c5, A5, J5, tv5, cap5, i1, i2, i3⟩ := t_app (J := J4) g2 93 (by omega) (by rw [tN_1, tC_1]; omega)
    refine Or.inr ⟨(c5, A5, J5), ⟨by omega, tv5, cap5, ?_, (((hL.trans e3).trans f3).trans g3).trans i3⟩, ?_⟩
    · rw [blP_s g r i hI]; exact i2
    · dsimp only
      rw [fX6_writeRow_16, rwI1 hR1, x1, if_neg (by rw [ii_le _ _ (by omega)]; omega), lkV hk1, e1, k_Cl e3.1, q_V, lkR7 e2.1, sbV e2.1, il91, f1, k_Cl f3.1, q_R, lkR7 f2.1, rwV (f2.1.now hr), hba, k_C, q_I, sbV f2.1, g1, k_Cl g3.1, q_R, lkR7 g2.1, sbV g2.1, il93, i1, k_Cl i3.1, q_R, il1, lt_q, ii_add]
  · rintro n ⟨c1, A1, J1⟩ ⟨hI, tv1, cap1, hT, hL⟩
    dsimp only at hT hL ⊢
    have x1 := (hL.rr hrr hg hr).1.1
    refine ⟨c1, A1, J1, tv1, cap1, ?_, hT, hL⟩
    rw [fX6_writeRow_16, rwI1 (hT.1.now hr), x1, if_pos (Int32.le_refl _)]
theorem c_piLoop (h : TS c A pl sp tv cap p) (hp : p.1 ≤ 100) (hrr : RR A J (rc 303 r) len g r) (hg : RG g r) (hr : 0 ≤ r ∧ r < 8) (hP : PR A pl M) (hM : SA M) (hkb : ∀ k, 0 ≤ k → k < cel g r 1 → cel g r (11 + k) < M 0 9) :
    ∃ (c' : CC) (A' : AI) (J' : JI) (tv' cap' : Nat), fX6_writeRow_69 FU 0 (rc 303 r) (ii 0) (CW c A J) = fX6_writeRow_96 0 (rc 303 r) (CW c' A' J') ∧ TS c' A' pl sp tv' cap' (piP (M 1) (M 2) g r p (cel g r 1).toNat) ∧ TL c c' cap cap' A A' J J' := by
  have h0 := hg.2.1
  have hap := h.1.2.2.2.1.1
  have h9 := hM.1.2.2.2.2.2.2.2
  refine lp (fun n i (s : CC × AI × JI) => fX6_writeRow_69 n 0 (rc 303 r) (ii i) (CW s.1 s.2.1 s.2.2)) (fun x => ∃ (c' : CC) (A' : AI) (J' : JI) (tv' cap' : Nat), x = fX6_writeRow_96 0 (rc 303 r) (CW c' A' J') ∧ TS c' A' pl sp tv' cap' (piP (M 1) (M 2) g r p (cel g r 1).toNat) ∧ TL c c' cap cap' A A' J J')
    (fun i s => 0 ≤ i ∧ ∃ tv' cap' : Nat, TS s.1 s.2.1 pl sp tv' cap' (piP (M 1) (M 2) g r p i.toNat) ∧ TL c s.1 cap cap' A s.2.1 J s.2.2) (cel g r 1) ?_ ?_ FU 0 (c, A, J) (by omega) ⟨by omega, tv, cap, h, TL.refl _ _ _ _⟩ (by have := FU_e; omega)
  · rintro n i ⟨c1, A1, J1⟩ hi ⟨hI, tv1, cap1, hT, hL⟩
    dsimp only at hT hL ⊢
    have hk1 := hT.1
    have hb := piP_b (met := M 1) (len := M 2) (p := p) hg (fun k a b => (hM.2.2.1 k a b).2) h.2.2.1.1 i.toNat (by omega)
    have hb1 := tB_b (piP (M 1) (M 2) g r p i.toNat)
    have hv := hg.2.2.2.1 i hI hi
    have hv9 := hkb i hI hi
    have hR1 := hk1.now hr
    have x1 := (hL.rr hrr hg hr).1.2.2.1
    obtain ⟨c2, A2, J2, tv2, cap2, e1, e2, e3⟩ := c_gapB (J := J1) hT (by omega)
    have hrr2 := (hL.trans e3).rr hrr hg hr
    have hpa := c_pieceAt (c := c2) (J := J2) (e2.1.now hr) hrr2.1.2.2.1 h0 i ⟨hI, hi⟩
    rw [hrr2.2.2.1 i hI hi] at hpa
    have hP2 := (hL.trans e3).pr hap hP
    have hm1 := hM.2.1 _ hv.1 hv.2
    have hm2 := hM.2.2.1 _ hv.1 hv.2
    obtain ⟨c3, A3, J3, tv3, cap3, f1, f2, f3⟩ := c_wKind (J := J2) e2 (by omega) (cel g r (11 + i)) (M 0 9) (M 1) (M 2) ⟨hv.1, hv9⟩ h9.2 hP2.1.2.2.2.2.2.2.2 ⟨(hP2.2.1 _ hv.1 hv9).1, hm1⟩ ⟨(hP2.2.1 _ hv.1 hv9).2, hm2⟩
    refine Or.inr ⟨(c3, A3, J3), ⟨by omega, tv3, cap3, ?_, (hL.trans e3).trans f3⟩, ?_⟩
    · rw [piP_s _ _ g r p i hI]; exact f2
    · dsimp only
      rw [fX6_writeRow_69, rwI4 hR1, x1, if_neg (by rw [ii_le _ _ (by omega)]; omega), lkV hk1, e1, k_Cl e3.1, q_V, rwV (e2.1.now hr), hpa, k_C, q_I, lkV e2.1, f1, k_Cl f3.1, q_V, il1, lt_q, ii_add]
  · rintro n ⟨c1, A1, J1⟩ ⟨hI, tv1, cap1, hT, hL⟩
    dsimp only at hT hL ⊢
    have x1 := (hL.rr hrr hg hr).1.2.2.1
    refine ⟨c1, A1, J1, tv1, cap1, ?_, hT, hL⟩
    rw [fX6_writeRow_69, rwI4 (hT.1.now hr), x1, if_pos (Int32.le_refl _)]
theorem c_rowEnd (h : TS c A pl sp tv cap p) (hp : p.1 ≤ 2900) (hrr : RR A J (rc 303 r) len g r) (hg : RG g r) (hr : 0 ≤ r ∧ r < 8) :
    ∃ (c' : CC) (A' : AI) (J' : JI) (tv' cap' : Nat), fX6_writeRow_96 0 (rc 303 r) (CW c A J) = some (Sum.inl (some (Value.int (ii ((if cel g r 2 = -1 then p else tQ (cel g r 2) p).1)))), CW c' A' J') ∧ TS c' A' pl sp tv' cap' (if cel g r 2 = -1 then p else tQ (cel g r 2) p) ∧ TL c c' cap cap' A A' J J' := by
  have hk := h.1
  have hR := hk.now hr
  have x7 := hrr.1.2.2.2.2.1
  have h7 := hg.2.2.2.2.1
  have hcq := c_hasQuoin (c := c) (A := A) (J := J) hR (by rw [x7]; exact h7)
  rw [x7] at hcq
  by_cases y : cel g r 2 = -1
  · rw [if_pos y] at hcq ⊢
    have hl := t_len (J := J) hk p.1 h.2.1.1
    refine ⟨c, A, J, tv, cap, ?_, h, TL.refl _ _ _ _⟩
    rw [fX6_writeRow_96, rwV hR, hcq, k_C, q_I, if_pos i00, fX6_writeRow_111, lkR7 hk, sbV hk, hl, k_C, q_I]
  · rw [if_neg y] at hcq ⊢
    obtain ⟨c1, A1, J1, tv1, cap1, e1, e2, e3⟩ := c_wOpen (J := J) h (by omega) (cel g r 2) (by omega)
    have hl := t_len (J := J1) e2.1 _ e2.2.1.1
    refine ⟨c1, A1, J1, tv1, cap1, ?_, e2, e3⟩
    rw [fX6_writeRow_96, rwV hR, hcq, k_C, q_I, if_neg (show ¬ ii 1 = (0 : Int32) by decide), rwI7 hR, x7, lkV hk, e1, k_Cl e3.1, q_V, fX6_writeRow_111, lkR7 e2.1, sbV e2.1, hl, k_C, q_I]
end TX7
section TX8
variable {K : Nat × Nat} {M M' : AI} {g : Int → Int} {p : TP} {r : Int}
theorem m_rowEnd (h : TM M p) (hp : 0 ≤ p.1 ∧ p.1 ≤ 2900) (hg : RG g r) (hr : 0 ≤ r ∧ r < 8) : ∃ M', fX7_writeRow_96 0 (ii r) (NW K (mg M g)) = some (Sum.inl (some (Value.int (ii ((if cel g r 2 = -1 then p else tQ (cel g r 2) p).1)))), NW K (mg M' g)) ∧ TM M' (if cel g r 2 = -1 then p else tQ (cel g r 2) p) ∧ FM M M' := by
  have h7 := hg.2.2.2.2.1
  obtain ⟨M', e1, e2, e3⟩ := m_quoin (K := K) (g := g) h (by omega) (cel g r 2) h7
  have h40 := e2.1
  refine ⟨M', ?_, e2, e3⟩
  simp (disch := first | assumption | omega) only [fX7_writeRow_96, nR1, nA1, nU1, nR2, nA2, nU2, nR3, nA3, nU3, nR4, nA4, nU4, nR5, nA5, nU5, nR6, nA6, nU6, nR7, nA7, nU7, nR8, nA8, nU8, nR9, nA9, nU9, nR10, nA10, nU10, nR11, nA11, nU11, nR12, nA12, nU12, nR13, nA13, nU13, nR14, nA14, nU14, nR15, nA15, nU15, nR16, nA16, nU16, nI0, nS0, nI1, nS1, nI2, nS2, nI3, nS3, nI4, nS4, nI5, nS5, nI6, nS6, nI7, nS7, nI8, nS8, nI9, nS9, nI15, nS15, nI18, nS18, nI19, nS19, nI20, nS20, nI21, nS21, nI22, nS22, nI23, nS23, nI24, nS24, nI25, nS25, nI26, nS26, nI27, nS27, nI32, nS32, nI36, nS36, nI37, nS37, nI40, nS40, nSZ1, nV, nC, ↓reduceIte, tr_lt, fa_lt, tr_le, fa_le, tr_eq, fa_eq, and_true, true_and, and_false, false_and, il0, il1, il2, il3, il4, il5, il6, il7, il8, il9, il10, il11, il12, il15, il16, il20, il24, il31, il32, il44, il45, il48, il50, il57, il58, il59, il63, il91, il93, il97, il99, il100, il109, il113, il119, il120, il122, il200, il255, il480, il500, il501, il512, il999, il4112, il41120, il1000000, il1000003, ii_add, ii_sub, ii_mul, ii_neg, ii_le, ii_lt, ii_eq, ii_div, q_I, q_V, q_R, lt_q, rZ_q, md_M, md_16, md_4, md_8, md_10, if_true, if_false, if_pos, if_neg, mg_3, mg_0, mg_1, mg_2, mg_k, mg_up3, mg_upk, e_of, e1, h40]
end TX8
section TX9
variable {C0 N0 n : Nat} {K : Nat × Nat} {c : CC} {A : AI} {J : JI} {M : AI} {g g' o : Int → Int} {pl sp tv cap : Nat} {f B : Int}
theorem tQ_b (o : Int) (p : TP) (ho : o < 100) : (tQ o p).1 ≤ p.1 + 4 := by
  have h1 := tB_b p
  have h2 := nd_2 o ho
  show (tB p).1 + 1 + nd o ≤ _
  omega
theorem t_char {p : TP} (h : TS c A pl sp tv cap p) (i : Int) (hi : 0 ≤ i ∧ i < p.1) : fJ4_charAt_5068e 375 (ii i) (CW c A J) = some (Sum.inl (some (Value.int (ii (p.2 i)))), CW c A J) := by
  obtain ⟨hk, ⟨a3, a1⟩, ⟨l0, l1, l2, l3, l4⟩, ht, hb⟩ := h
  have e := ht i hi.1 hi.2
  have hv := hb i hi.1 (by omega)
  rw [e] at hv
  have hch := b_ch (p.2 i) hv
  have hci : ∀ W : AS, fJ0_checkIndex_df160 (ii i) (ii p.1) (CW c A J) = some (Sum.inl none, CW c A J) := fun _ => by
    have h1 : fJ3_checkIndex_8e157 (ii i) (ii p.1) 4000000 (CW c A J) = some (Sum.inl (some (Value.int (ii (i)))), CW c A J) := by
      rw [fJ3_checkIndex_8e157, il0, if_neg (by rw [ii_lt _ _ (by omega)]; omega), if_pos (by rw [ii_lt _ _ (by omega)]; omega)]
    rw [fJ0_checkIndex_df160, h1, k_C, q_I]
  have h5 : fJ5_charAt_5068e 375 (ii i) (CW c A J) = some (Sum.inl (some (Value.int (ii (p.2 i)))), CW c A J) := by
    by_cases y : (cap : Int) < p.1
    · omega
    · rw [fJ5_charAt_5068e, sbI1 hk, a1, sbR0 hk, sbI3 hk, a3, sbL hk, il31, shr0, lt_q, if_neg (by rw [ii_lt _ _ (by omega)]; exact y), hci (CW c A J), k_C, q_V, if_pos i00, k_aI hk.2.2.2.2.1.2.2.1 i (by omega), e, hch.1]
      show some (Sum.inl (some (Value.int (((ii (p.2 i)).toUInt32 % 65536).toInt32))), CW c A J) = _
      rw [hch.2]
  rw [fJ4_charAt_5068e, sbV hk, h5, k_C, q_I]
  show some (Sum.inl (some (Value.int (((ii (p.2 i)).toUInt32 % 65536).toInt32))), CW c A J) = _
  rw [hch.2]
end TX9
