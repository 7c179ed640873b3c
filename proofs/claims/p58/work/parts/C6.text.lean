/-! THE CLASS'S CALLS, AS THE LAW MAKES THEM: texts -/
def rwT (M : AI) (g : Int → Int) (r : Int) : TP := if cel g r 2 = -1 then piP (M 1) (M 2) g r (blP g r (cel g r 0).toNat) (cel g r 1).toNat else tQ (cel g r 2) (piP (M 1) (M 2) g r (blP g r (cel g r 0).toNat) (cel g r 1).toNat)
/-- the model's text laid by -/
def txM (M : AI) (q : TP) : AI := fun b z => if b = 0 ∧ z = 40 then q.1 else if b = 16 then q.2 z else M b z
section TXD
variable {C0 N0 n : Nat} {c : CC} {A : AI} {J : JI} {M : AI} {g : Int → Int} {pl sp tv cap : Nat}
theorem txM_T (M : AI) (q : TP) : TM (txM M q) q := ⟨if_pos ⟨rfl, rfl⟩, fun k a b => (if_neg (by omega)).trans (if_pos rfl)⟩
theorem txM_F (M : AI) (q : TP) : FM M (txM M q) := ⟨fun z h => (if_neg (by omega)).trans (if_neg (by omega)), fun b z h h2 => (if_neg (by omega)).trans (if_neg (by omega))⟩
theorem txM_K (M : AI) (q : TP) : KP M (txM M q) := ⟨fun z a b => (if_neg (by omega)).trans (if_neg (by omega)), funext fun z => (if_neg (by omega)).trans (if_neg (by omega)), funext fun z => (if_neg (by omega)).trans (if_neg (by omega))⟩
/-- the call writes the text q and tells its length -/
abbrev DT (C0 N0 n pl sp cap : Nat) (c : CC) (A : AI) (J : JI) (M : AI) (g : Int → Int) (x : Option AR) (q : TP) : Prop := ∃ (c' : CC) (A' : AI) (J' : JI) (tv' cap' : Nat), x = some (Sum.inl (some (Value.int (ii (q.1)))), CW c' A' J') ∧ Inv C0 N0 n pl sp tv' cap' c' A' J' (txM M q) g ∧ TL c c' cap cap' A A' J J'
theorem d_textByte (hI : Inv C0 N0 n pl sp tv cap c A J M g) (i : Int) (q : 0 ≤ i ∧ i < M 0 40) : fX6_textByte 0 (ii i) (CW c A J) = some (Sum.inl (some (Value.int (ii (M 16 i)))), CW c A J) := by
  have hk := hI.1
  have hT := hI.ts
  have hl := t_len (J := J) hk _ hT.2.1.1
  have hL := hI.2.2.2.2.2.1.1
  have hch := t_char (J := J) hT i q
  have hix := c_index1 i (M 0 40) q (by omega) (CW c A J)
  rw [fX6_textByte, lkR7 hk, sbV hk, hl, k_C, q_I, hix, k_C, q_V, lkR7 hk, sbV hk, hch, k_C, q_I]
theorem d_textByteN (hI : Inv C0 N0 n pl sp tv cap c A J M g) (i : Int) (q : ¬ (0 ≤ i ∧ i < M 0 40)) (hib : -2147483648 ≤ i ∧ i < 2147483648) : fX6_textByte 0 (ii i) (CW c A J) = some (.inr "java/lang/IndexOutOfBoundsException", CW (cU c) A J) := by
  have hk := hI.1
  have hT := hI.ts
  have hl := t_len (J := J) hk _ hT.2.1.1
  have hL := hI.2.2.2.2.2.1.1
  have hci := c_index0 (c := c) (A := A) (J := J) i (M 0 40) q (by omega) hib
  rw [fX6_textByte, lkR7 hk, sbV hk, hl, k_C, q_I, hci, k_E]
theorem d_writeRow (hI : Inv C0 N0 n pl sp tv cap c A J M g) (hl : M 0 1 = 1) (h0 : M 0 0 = 0) (r : Int) (hr : 0 ≤ r ∧ r < M 0 3) : DT C0 N0 n pl sp cap c A J M g (fX6_writeRow 0 (ii r) (CW c A J)) (rwT M g r) := by
  have hk := hI.1
  have hRd : isReader c 1 := hk.2.1.1
  have hSv : isSolver c 4 := hk.2.1.2.1
  have hHi : isHist c 21 := hk.2.1.2.2.1
  have hNow : isState c 303 := hk.2.1.2.2.2.1
  have hSpr : isState c 338 := hk.2.1.2.2.2.2.1
  have hPl : isPlan c pl := hk.2.2.2.1.2.1
  obtain ⟨h10, hM, hP, hS, hG⟩ := hI.ld hl
  rw [up_eqv h0] at hM hP hS hG
  obtain ⟨p0, p1, p2, p3, p4, p5, p6, p7⟩ := hP.1
  have hc1 := c_chase1 (A := A) (J := J) hk h10
  have h38 := hM.1.2.1
  have h910 := hM.1.2.2.2.2.2.2.2
  have hcr := c_row1 (A := A) (J := J) hk h10 r (by rw [p1]; exact hr) (by rw [p1]; exact h38.2)
  have hr8 : 0 ≤ r ∧ r < 8 := by omega
  have hR := hNow.row r hr8
  have hrr := hS.2 r hr.1 (by omega)
  have hgr := hG.1.1 r hr.1 (by omega)
  have hap := hk.2.2.2.1.1
  have hkb := hG.1.2.2.2.1 r hr.1 hr8.2
  have h7 := hgr.2.2.2.2.1
  obtain ⟨A1, s1, s2, s3⟩ := t_set0 (J := J) hI.ts
  have hL1 : TL c c cap cap A A1 J J := ⟨⟨Nat.le_refl _, Nat.le_refl _, Nat.le_refl _⟩, ⟨Nat.le_refl _, Nat.le_refl _, Nat.le_refl _⟩, fun b z q => s3 b z (by omega), fun _ _ _ => rfl, ⟨⟨Nat.le_refl _, Nat.le_refl _, Nat.le_refl _⟩, ⟨Nat.le_refl _, Nat.le_refl _, Nat.le_refl _⟩, ⟨fun _ _ => rfl, fun _ _ _ _ => rfl⟩, fun b z _ w _ => s3 b z w, fun _ _ _ => rfl, Or.inl rfl⟩⟩
  have hb1 := blP_b hgr (cel g r 0).toNat (by have := hgr.1; omega)
  have hb2 := piP_b (met := M 1) (len := M 2) (p := blP g r (cel g r 0).toNat) hgr (fun k a b => (hM.2.2.1 k a b).2) hb1.1 (cel g r 1).toNat (by have := hgr.2.1; omega)
  have hb3 : (if cel g r 2 = -1 then piP (M 1) (M 2) g r (blP g r (cel g r 0).toNat) (cel g r 1).toNat else tQ (cel g r 2) (piP (M 1) (M 2) g r (blP g r (cel g r 0).toNat) (cel g r 1).toNat)).1 ≤ 2900 := by
    have h0g := hgr.1
    have h1 := hgr.2.1
    have := tQ_b (cel g r 2) (piP (M 1) (M 2) g r (blP g r (cel g r 0).toNat) (cel g r 1).toNat) (by omega)
    split <;> omega
  have h0g := hgr.1
  have h1 := hgr.2.1
  obtain ⟨c2, A2, J2, tv2, cap2, e1, e2, e3⟩ := c_blLoop (J := J) s2 (hL1.rr hrr hgr hr8) hgr hr8
  have hL2 := hL1.trans e3
  obtain ⟨c3, A3, J3, tv3, cap3, f1, f2, f3⟩ := c_piLoop (J := J2) e2 (by omega) (hL2.rr hrr hgr hr8) hgr hr8 (hL2.pr hap hP) hM hkb
  have hL3 := hL2.trans f3
  obtain ⟨c4, A4, J4, tv4, cap4, g1, g2, g3⟩ := c_rowEnd (J := J3) f2 (by omega) (hL3.rr hrr hgr hr8) hgr hr8
  have hL4 := hL3.trans g3
  refine ⟨c4, A4, J4, tv4, cap4, ?_, hI.txt g2 hL4 (txM_T _ _) (txM_F _ _) hb3, hL4⟩
  rw [fX6_writeRow, lkV hk, hcr, k_C, q_R, lkR7 hk, sbV hk, il0, s1, k_C, q_V, e1, fX6_writeRow_67, il0, f1, g1]
  rfl
theorem d_writeStock (hI : Inv C0 N0 n pl sp tv cap c A J M g) (hl : M 0 1 = 1) (h0 : M 0 0 = 0) : DT C0 N0 n pl sp cap c A J M g (fX6_writeStock 0 (CW c A J)) (stP (M 1) (M 2) g (M 0 9).toNat) := by
  have hk := hI.1
  have hRd : isReader c 1 := hk.2.1.1
  have hSv : isSolver c 4 := hk.2.1.2.1
  have hHi : isHist c 21 := hk.2.1.2.2.1
  have hNow : isState c 303 := hk.2.1.2.2.2.1
  have hSpr : isState c 338 := hk.2.1.2.2.2.2.1
  have hPl : isPlan c pl := hk.2.2.2.1.2.1
  obtain ⟨h10, hM, hP, hS, hG⟩ := hI.ld hl
  rw [up_eqv h0] at hM hP hS hG
  obtain ⟨p0, p1, p2, p3, p4, p5, p6, p7⟩ := hP.1
  have hc1 := c_chase1 (A := A) (J := J) hk h10
  have h38 := hM.1.2.1
  have h910 := hM.1.2.2.2.2.2.2.2
  have hap := hk.2.2.2.1.1
  obtain ⟨A1, s1, s2, s3⟩ := t_set0 (J := J) hI.ts
  have hL1 : TL c c cap cap A A1 J J := ⟨⟨Nat.le_refl _, Nat.le_refl _, Nat.le_refl _⟩, ⟨Nat.le_refl _, Nat.le_refl _, Nat.le_refl _⟩, fun b z q => s3 b z (by omega), fun _ _ _ => rfl, ⟨⟨Nat.le_refl _, Nat.le_refl _, Nat.le_refl _⟩, ⟨Nat.le_refl _, Nat.le_refl _, Nat.le_refl _⟩, ⟨fun _ _ => rfl, fun _ _ _ _ => rfl⟩, fun b z _ w _ => s3 b z w, fun _ _ _ => rfl, Or.inl rfl⟩⟩
  obtain ⟨c2, A2, J2, tv2, cap2, e1, e2, e3⟩ := c_stLoop (J := J) s2 (hL1.st hS hG.1.1) hG.1.1 (hL1.pr hap hP) hM hG.GL
  have hb := stP_b (met := M 1) (len := M 2) (g := g) (M 0 9) h910.2 (fun k a b => (hM.2.2.1 k a b).2) (M 0 9).toNat (by omega)
  refine ⟨c2, A2, J2, tv2, cap2, ?_, hI.txt e2 (hL1.trans e3) (txM_T _ _) (txM_F _ _) (by omega), hL1.trans e3⟩
  rw [fX6_writeStock, lkV hk, hc1, k_C, q_V, lkR7 hk, sbV hk, il0, s1, k_C, q_V, e1]
end TXD
