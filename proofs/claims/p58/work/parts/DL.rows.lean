/-! THE LAW: the rows' texts -/
/-- the law's text is the class's with a blank ahead -/
def Sh (p p' : TP) : Prop := (p.1 = 0 ∧ p'.1 = 0) ∨ (0 < p.1 ∧ p'.1 = p.1 + 1 ∧ ∀ k, 0 ≤ k → k < p.1 → p'.2 (k + 1) = p.2 k)
theorem tB_0 (p : TP) (h : p.1 = 0) : tB p = p := if_neg (by omega)
theorem tB_p (p : TP) (h : 0 < p.1) : tB p = tC 32 p := if_pos h
theorem Sh.word {p p' : TP} (h : Sh p p') (x : Nat) (ch : Int) (hl : wlen x = 2) (h0 : wb x 0 = 32) (h1 : wb x 1 = ch) : Sh (tC ch (tB p)) (tS x p') := by
  refine Or.inr ?_
  rcases h with ⟨a, b⟩ | ⟨a, b, e⟩
  · rw [tB_0 p a]
    refine ⟨by rw [tC_1]; omega, by show p'.1 + (wlen x : Nat) = _; rw [tC_1, hl]; omega, fun k u v => ?_⟩
    rw [tC_1] at v
    have k0 : k = 0 := by omega
    show (if p'.1 ≤ k + 1 ∧ k + 1 < p'.1 + (wlen x : Nat) then wb x (k + 1 - p'.1).toNat else p'.2 (k + 1)) = gu p.2 p.1 ch k
    rw [if_pos (by rw [hl]; omega), k0, a, b, gu_s]
    exact h1
  · rw [tB_p p a]
    refine ⟨by rw [tC_1, tC_1]; omega, by show p'.1 + (wlen x : Nat) = _; rw [tC_1, tC_1, hl]; omega, fun k u v => ?_⟩
    rw [tC_1, tC_1] at v
    show (if p'.1 ≤ k + 1 ∧ k + 1 < p'.1 + (wlen x : Nat) then wb x (k + 1 - p'.1).toNat else p'.2 (k + 1)) = gu (gu p.2 p.1 32) (p.1 + 1) ch k
    by_cases y : k < p.1
    · rw [if_neg (by omega), gu_n _ _ _ _ (by omega), gu_n _ _ _ _ (by omega)]
      exact e k u y
    · rw [if_pos (by rw [hl]; omega)]
      by_cases z : k = p.1
      · rw [gu_n _ _ _ _ (by omega), z, gu_s, show (p.1 + 1 - p'.1).toNat = 0 by omega]
        exact h0
      · rw [show k = p.1 + 1 by omega, gu_s, show (p.1 + 1 + 1 - p'.1).toNat = 1 by omega]
        exact h1
theorem Sh.num {p p' : TP} (h : Sh p p') (hp : 0 < p.1) (v : Int) : Sh (tN v p) (tN v p') := by
  have hn := nd_b v
  rcases h with ⟨a, b⟩ | ⟨a, b, e⟩
  · omega
  · refine Or.inr ⟨by rw [tN_1]; omega, by rw [tN_1, tN_1]; omega, fun k u w => ?_⟩
    rw [tN_1] at w
    show (if p'.1 ≤ k + 1 ∧ k + 1 < p'.1 + nd v then 48 + dgt v (p'.1 + nd v - 1 - (k + 1)) else p'.2 (k + 1)) = if p.1 ≤ k ∧ k < p.1 + nd v then 48 + dgt v (p.1 + nd v - 1 - k) else p.2 k
    by_cases y : k < p.1
    · rw [if_neg (by omega), if_neg (by omega)]
      exact e k u y
    · rw [if_pos (by omega), if_pos (by omega), show p'.1 + nd v - 1 - (k + 1) = p.1 + nd v - 1 - k by omega]
theorem Sh.chr {p p' : TP} (h : Sh p p') (hp : 0 < p.1) (ch : Int) : Sh (tC ch p) (tC ch p') := by
  rcases h with ⟨a, b⟩ | ⟨a, b, e⟩
  · omega
  · refine Or.inr ⟨by rw [tC_1]; omega, by rw [tC_1, tC_1]; omega, fun k u w => ?_⟩
    rw [tC_1] at w
    show gu p'.2 p'.1 ch (k + 1) = gu p.2 p.1 ch k
    by_cases y : k < p.1
    · rw [gu_n _ _ _ _ (by omega), gu_n _ _ _ _ (by omega)]
      exact e k u y
    · rw [show k + 1 = p'.1 by omega, show k = p.1 by omega, gu_s, gu_s]
theorem Sh.b {p p' : TP} (h : Sh p p') : p.1 ≤ p'.1 ∧ p'.1 ≤ p.1 + 1 := by
  rcases h with ⟨a, b⟩ | ⟨a, b, e⟩ <;> omega
theorem tC_pos (ch : Int) (p : TP) (h : 0 ≤ p.1) : 0 < (tC ch (tB p)).1 := by
  have := tB_b p
  rw [tC_1]
  omega
theorem tS_2 (x : Nat) (p : TP) (h : wlen x = 2) : (tS x p).1 = p.1 + 2 := by
  show p.1 + ((wlen x : Nat) : Int) = _
  rw [h]
  rfl
theorem w_q41 : wlen 1000041 = 2 ∧ wb 1000041 0 = 32 ∧ wb 1000041 1 = 91 := by decide +kernel
theorem w_q42 : wlen 1000042 = 2 ∧ wb 1000042 0 = 32 ∧ wb 1000042 1 = 109 := by decide +kernel
theorem w_q43 : wlen 1000043 = 2 ∧ wb 1000043 0 = 32 ∧ wb 1000043 1 = 119 := by decide +kernel
theorem w_q44 : wlen 1000044 = 2 ∧ wb 1000044 0 = 32 ∧ wb 1000044 1 = 113 := by decide +kernel
def wbP (g : Int → Int) (r : Int) : Nat → TP
  | 0 => tP0
  | i + 1 => tC 93 (tN (cel g r (5 + i)) (tS 1000041 (wbP g r i)))
def wpW (met : Int → Int) (k : Int) : Nat := if met k = 0 then 1000043 else 1000042
def wpP (met len g : Int → Int) (r : Int) (p : TP) : Nat → TP
  | 0 => p
  | i + 1 => tN (len (cel g r (11 + i))) (tS (wpW met (cel g r (11 + i))) (wpP met len g r p i))
theorem wbP_s (g : Int → Int) (r i : Int) (h : 0 ≤ i) : wbP g r (i + 1).toNat = tC 93 (tN (cel g r (5 + i)) (tS 1000041 (wbP g r i.toNat))) := by
  rw [show (i + 1).toNat = i.toNat + 1 by omega]
  show tC 93 (tN (cel g r (5 + (i.toNat : Int))) (tS 1000041 (wbP g r i.toNat))) = _
  rw [show ((i.toNat : Nat) : Int) = i by omega]
theorem wpP_s (met len g : Int → Int) (r : Int) (p : TP) (i : Int) (h : 0 ≤ i) : wpP met len g r p (i + 1).toNat = tN (len (cel g r (11 + i))) (tS (wpW met (cel g r (11 + i))) (wpP met len g r p i.toNat)) := by
  rw [show (i + 1).toNat = i.toNat + 1 by omega]
  show tN (len (cel g r (11 + (i.toNat : Int)))) (tS (wpW met (cel g r (11 + (i.toNat : Int)))) (wpP met len g r p i.toNat)) = _
  rw [show ((i.toNat : Nat) : Int) = i by omega]
theorem wbP_h {g : Int → Int} {r : Int} (hg : RG g r) : ∀ i : Nat, (i : Int) ≤ cel g r 0 → Sh (blP g r i) (wbP g r i)
  | 0, _ => Or.inl ⟨rfl, rfl⟩
  | i + 1, h => by
    have ih := wbP_h hg i (by omega)
    have hb := blP_b hg i (by omega)
    have h1 := ih.word 1000041 91 w_q41.1 w_q41.2.1 w_q41.2.2
    have h2 := h1.num (tC_pos 91 _ hb.1) (cel g r (5 + i))
    have hp := tC_pos 91 (blP g r i) hb.1
    have hn := nd_b (cel g r (5 + i))
    exact h2.chr (by rw [tN_1]; omega) 93
theorem wpP_h {met len g : Int → Int} {r : Int} (hg : RG g r) (hl : ∀ k, 0 ≤ k → k < 10 → len k ≤ 99) {p p' : TP} (hp0 : 0 ≤ p.1) (h0 : Sh p p') : ∀ i : Nat, (i : Int) ≤ cel g r 1 → Sh (piP met len g r p i) (wpP met len g r p' i)
  | 0, _ => h0
  | i + 1, h => by
    have ih := wpP_h (met := met) hg hl hp0 h0 i (by omega)
    have hb := piP_b (met := met) (len := len) (p := p) hg hl hp0 i (by omega)
    show Sh (tN (len (cel g r (11 + i))) (tC (if met (cel g r (11 + i)) = 0 then 119 else 109) (tB (piP met len g r p i)))) (tN (len (cel g r (11 + i))) (tS (wpW met (cel g r (11 + i))) (wpP met len g r p' i)))
    unfold wpW
    by_cases y : met (cel g r (11 + i)) = 0
    · rw [if_pos y, if_pos y]
      exact (ih.word 1000043 119 w_q43.1 w_q43.2.1 w_q43.2.2).num (tC_pos _ _ hb.1) _
    · rw [if_neg y, if_neg y]
      exact (ih.word 1000042 109 w_q42.1 w_q42.2.1 w_q42.2.2).num (tC_pos _ _ hb.1) _
/-- room for so much more, the class's builder's growth aside -/
abbrev RQ (C0 N0 n cap : Nat) (c : CC) (k m : Nat) : Prop := c.2.2.1 + k + 7000 < 900000 + cap ∧ c.2.2.2.1 + k ≤ C0 + n + cap ∧ c.2.2.2.2 + m ≤ N0 + 6 * n + 2 * cap
abbrev GRc (c c' : CC) (cap cap' k m : Nat) : Prop := (c.2.2.1 ≤ c'.2.2.1 ∧ c'.2.2.1 + cap ≤ c.2.2.1 + cap' + k) ∧ (c.2.2.2.1 ≤ c'.2.2.2.1 ∧ c'.2.2.2.1 + cap ≤ c.2.2.2.1 + cap' + k) ∧ c.2.2.2.2 ≤ c'.2.2.2.2 ∧ c'.2.2.2.2 + 2 * cap ≤ c.2.2.2.2 + 2 * cap' + m
section ROW
variable {C0 N0 n : Nat} {c c0 c' c2 : CC} {A A0 A' A2 : AI} {J J0 J' J2 : JI} {M : AI} {g o : Int → Int} {pl sp tv cap tv' cap' B tvb capb k m w d : Nat} {p p' : TP} {q r : Int}
theorem LwD.capB (h : LwD C0 N0 n pl sp tv cap c A J M g w d q) : cap ≤ 7000 := h.1.1.2.2.2.2.2.1.2.1.2.2
theorem RQ.ro (h : RQ C0 N0 n cap c k m) (hc : cap ≤ 7000) : RO C0 N0 n cap c k m := by
  have hz : zB = 900000 := zB_e
  omega
/-- a row has not more pieces than the chase is long -/
theorem LwD.p120 (h : LwD C0 N0 n pl sp tv cap c A J M g w d q) (hr : 0 ≤ r ∧ r < M 0 3) : cel g r 1 ≤ 120 := by
  have hM := h.1.li.1
  have hG := h.1.li.2.2.2
  have h1 := hG.nP hM hr
  have h2 := hG.need hM hr
  have h3 := suB_b (hG.1.1 r hr.1 (by have := hM.1.2.1; omega))
  have := h.1.2.2.2.2.2
  omega
theorem n_rows23 (hh : LwD C0 N0 n pl sp tv cap c0 A0 J0 M g w d q) (hro : RO C0 N0 n cap c0 1300 3000) (hr : 0 ≤ r ∧ r < M 0 3) (hb : BX 2 27 c0 c A0 A J0 J B tvb capb tP0) (r2 : _) : ∃ (c' : CC) (A' : AI) (J' : JI) (tvb' capb' : Nat), fL_rows_23 r2 FU 0 w (ii r) B 0 (CW c A J) = fL_rows_65 r2 0 w (ii r) B (CW c' A' J') ∧ BX 2 27 c0 c' A0 A' J0 J' B tvb' capb' (wbP g r (cel g r 0).toNat) := by
  have hM := hh.1.li.1
  have hG := hh.1.li.2.2.2
  have h38 := hM.1.2.1
  have h39 := hM.1.2.2.2.2.2.2.2
  have h4 := hh.1.2.2.2.2.1
  have hgr := hG.1.1 r hr.1 (by omega)
  have b0 := hgr.1
  have b1 := hgr.2.1
  have b2 := hgr.2.2.2.2.1
  have b3 := hgr.2.2.2.2.2.1
  have b4 := hgr.2.2.2.2.2.2
  have hgb := gapM_b hM hgr
  rw [show (0 : Int32) = ii 0 from rfl]
  refine lp (fun f i (s : CC × AI × JI) => fL_rows_23 r2 f 0 w (ii r) B (ii i) (CW s.1 s.2.1 s.2.2)) (fun x => ∃ (c' : CC) (A' : AI) (J' : JI) (tvb' capb' : Nat), x = fL_rows_65 r2 0 w (ii r) B (CW c' A' J') ∧ BX 2 27 c0 c' A0 A' J0 J' B tvb' capb' (wbP g r (cel g r 0).toNat))
    (fun i s => 0 ≤ i ∧ ∃ tvb' capb' : Nat, BX 2 27 c0 s.1 A0 s.2.1 J0 s.2.2 B tvb' capb' (wbP g r i.toNat)) (cel g r 0) ?_ ?_ FU 0 (c, A, J) (by omega) ⟨by omega, tvb, capb, hb⟩ (by have := FU_e; omega)
  · rintro f i ⟨c1, A1, J1⟩ hi ⟨hi0, t1, k1, b1⟩
    dsimp only at b1 ⊢
    have hs1 := (wbP_h hgr i.toNat (by omega)).b
    have hs2 := blP_b hgr i.toNat (by omega)
    have hc1 := b1.2.2.2
    have hv := hgr.2.2.1 i hi0 hi
    have hnd := nd_b (cel g r (5 + i))
    have s1 := hh.lx b1.1 (by omega)
    have hW1 := s1.1.2.2.1.1
    have w27 := (s1.1.2.2.1.2.2.2.2.1 r hr.1 hr.2).1.1
    obtain ⟨c2, A2, J2, t2, k2, e2, b2⟩ := k_bS b1 1000041 (by omega) (by omega)
    have hc2 := b2.2.2.2
    have l2 : (tS 1000041 (wbP g r i.toNat)).1 = (wbP g r i.toNat).1 + 2 := tS_2 _ _ w_q41.1
    have s2 := hh.lx b2.1 (by omega)
    have hW2 := s2.1.2.2.1.1
    have wB := (s2.1.2.2.1.2.2.2.2.1 r hr.1 hr.2).2.1 i hi0 hi
    obtain ⟨c3, A3, J3, t3, k3, e3, b3⟩ := k_bN b2 (cel g r (5 + i)) (by omega) (by omega)
    have hc3 := b3.2.2.2
    obtain ⟨c4, A4, J4, t4, k4, e4, b4⟩ := k_bA b3 93 (by omega) (by rw [tN_1]; omega) (x := 93) rfl
    refine Or.inr ⟨(c4, A4, J4), ⟨by omega, t4, k4, ?_⟩, ?_⟩
    · rw [wbP_s _ _ _ hi0]
      exact b4
    · show fL_rows_23 r2 (f + 1) 0 w (ii r) B (ii i) (CW c1 A1 J1) = _
      rw [fL_rows_23, wdR9 hW1, wdA27 hW1 r _ (by omega), w27, if_neg (by rw [ii_le _ _ (by omega)]; omega), e2, wdR7 hW2, wdB hW2 r _ (by omega), wdAB hW2 r i _ (by omega), wB, e3, e4, lt_q, ii_s]
  · rintro f ⟨c1, A1, J1⟩ ⟨hi0, t1, k1, b1⟩
    dsimp only at b1 ⊢
    have hs1 := (wbP_h hgr (cel g r 0).toNat (by omega)).b
    have hs2 := blP_b hgr (cel g r 0).toNat (by omega)
    have hc1 := b1.2.2.2
    have s1 := hh.lx b1.1 (by omega)
    have hW1 := s1.1.2.2.1.1
    have w27 := (s1.1.2.2.1.2.2.2.2.1 r hr.1 hr.2).1.1
    refine ⟨c1, A1, J1, t1, k1, ?_, b1⟩
    rw [fL_rows_23, wdR9 hW1, wdA27 hW1 r _ (by omega), w27, if_pos (Int32.le_refl _)]
theorem n_rows68 (hh : LwD C0 N0 n pl sp tv cap c0 A0 J0 M g w d q) (hro : RO C0 N0 n cap c0 1300 3000) (hr : 0 ≤ r ∧ r < M 0 3) (hb : BX 2 27 c0 c A0 A J0 J B tvb capb (wbP g r (cel g r 0).toNat)) (r2 : _) : ∃ (c' : CC) (A' : AI) (J' : JI) (tvb' capb' : Nat), fL_rows_65 r2 0 w (ii r) B (CW c A J) = fL_rows_133 r2 0 w (ii r) B (CW c' A' J') ∧ BX 2 27 c0 c' A0 A' J0 J' B tvb' capb' (wpP (M 1) (M 2) g r (wbP g r (cel g r 0).toNat) (cel g r 1).toNat) := by
  have hM := hh.1.li.1
  have hG := hh.1.li.2.2.2
  have h38 := hM.1.2.1
  have h39 := hM.1.2.2.2.2.2.2.2
  have h4 := hh.1.2.2.2.2.1
  have hgr := hG.1.1 r hr.1 (by omega)
  have b0 := hgr.1
  have b1 := hgr.2.1
  have b2 := hgr.2.2.2.2.1
  have b3 := hgr.2.2.2.2.2.1
  have b4 := hgr.2.2.2.2.2.2
  have hgb := gapM_b hM hgr
  have h120 := hh.p120 hr
  have hl9 : ∀ k, 0 ≤ k → k < 10 → M 2 k ≤ 99 := fun k a b => (hM.2.2.1 k a b).2
  have hs2 := blP_b hgr (cel g r 0).toNat (by omega)
  have hsh := wbP_h hgr (cel g r 0).toNat (by omega)
  have hkb := hG.1.2.2.2.1 r hr.1 (by omega)
  rw [fL_rows_65, show (0 : Int32) = ii 0 from rfl]
  refine lp (fun f i (s : CC × AI × JI) => fL_rows_68 r2 f 0 w (ii r) B (ii i) (CW s.1 s.2.1 s.2.2)) (fun x => ∃ (c' : CC) (A' : AI) (J' : JI) (tvb' capb' : Nat), x = fL_rows_133 r2 0 w (ii r) B (CW c' A' J') ∧ BX 2 27 c0 c' A0 A' J0 J' B tvb' capb' (wpP (M 1) (M 2) g r (wbP g r (cel g r 0).toNat) (cel g r 1).toNat))
    (fun i s => 0 ≤ i ∧ ∃ tvb' capb' : Nat, BX 2 27 c0 s.1 A0 s.2.1 J0 s.2.2 B tvb' capb' (wpP (M 1) (M 2) g r (wbP g r (cel g r 0).toNat) i.toNat)) (cel g r 1) ?_ ?_ FU 0 (c, A, J) (by omega) ⟨by omega, tvb, capb, hb⟩ (by have := FU_e; omega)
  · rintro f i ⟨c1, A1, J1⟩ hi ⟨hi0, t1, k1, b1⟩
    dsimp only at b1 ⊢
    have hs3 := (wpP_h (met := M 1) hgr hl9 hs2.1 hsh i.toNat (by omega)).b
    have hs4 := piP_b (met := M 1) (len := M 2) (p := blP g r (cel g r 0).toNat) hgr hl9 hs2.1 i.toNat (by omega)
    have hc1 := b1.2.2.2
    have hk0 := (hgr.2.2.2.1 i hi0 hi).1
    have hkk := hkb i hi0 hi
    have hm := hM.2.1 _ hk0 (by omega)
    have hv := hM.2.2.1 _ hk0 (by omega)
    have s1 := hh.lx b1.1 (by omega)
    have hW1 := s1.1.2.2.1.1
    have w28 := (s1.1.2.2.1.2.2.2.2.1 r hr.1 hr.2).1.2.1
    have wP := (s1.1.2.2.1.2.2.2.2.1 r hr.1 hr.2).2.2 i hi0 hi
    have wM := (s1.1.2.2.1.2.2.1 _ hk0 hkk).2.1
    obtain ⟨x, hx⟩ : ∃ x, x = wpW (M 1) (cel g r (11 + i)) := ⟨_, rfl⟩
    have hx2 : (1000026 ≤ x ∧ x < 1000045) ∧ wlen x = 2 := by
      rw [hx]
      unfold wpW
      split
      · exact ⟨by omega, w_q43.1⟩
      · exact ⟨by omega, w_q42.1⟩
    obtain ⟨c2, A2, J2, t2, k2, e2, b2⟩ := k_bS b1 x hx2.1 (by omega)
    have hc2 := b2.2.2.2
    have l2 : (tS x (wpP (M 1) (M 2) g r (wbP g r (cel g r 0).toNat) i.toNat)).1 = (wpP (M 1) (M 2) g r (wbP g r (cel g r 0).toNat) i.toNat).1 + 2 := tS_2 _ _ hx2.2
    have s2 := hh.lx b2.1 (by omega)
    have hW2 := s2.1.2.2.1.1
    have wP2 := (s2.1.2.2.1.2.2.2.2.1 r hr.1 hr.2).2.2 i hi0 hi
    have wL2 := (s2.1.2.2.1.2.2.1 _ hk0 hkk).1
    obtain ⟨c3, A3, J3, t3, k3, e3, b3⟩ := k_bN b2 (M 2 (cel g r (11 + i))) (by omega) (by omega)
    have st : ∀ y : Nat, y = x → fL_rows_106 r2 (fL_rows_68 r2 f) 0 w (ii r) B (ii i) B y (CW c1 A1 J1) = fL_rows_68 r2 f 0 w (ii r) B (ii (i + 1)) (CW c3 A3 J3) := fun y hy => by
      rw [fL_rows_106, hy, e2, wdR2 hW2, wdR8 hW2, wdP hW2 r _ (by omega), wdAP hW2 r i _ (by omega), wP2, wdA4 hW2 _ _ (by omega), wL2, e3, lt_q, ii_s]
    refine Or.inr ⟨(c3, A3, J3), ⟨by omega, t3, k3, ?_⟩, ?_⟩
    · rw [wpP_s _ _ _ _ _ _ hi0, ← hx]
      exact b3
    · show fL_rows_68 r2 (f + 1) 0 w (ii r) B (ii i) (CW c1 A1 J1) = _
      rw [fL_rows_68, wdR10 hW1, wdA28 hW1 r _ (by omega), w28, if_neg (by rw [ii_le _ _ (by omega)]; omega), wdR6 hW1, wdR8 hW1, wdP hW1 r _ (by omega), wdAP hW1 r i _ (by omega), wP, wdA8 hW1 _ _ (by omega), wM]
      by_cases y : M 1 (cel g r (11 + i)) = 0
      · rw [if_pos (by rw [y]; rfl)]
        exact st _ (by rw [hx]; exact (if_pos y).symm)
      · rw [if_neg (by rw [il0, ii_eq _ _ (by omega)]; exact y)]
        exact st _ (by rw [hx]; exact (if_neg y).symm)
  · rintro f ⟨c1, A1, J1⟩ ⟨hi0, t1, k1, b1⟩
    dsimp only at b1 ⊢
    have hs3 := (wpP_h (met := M 1) hgr hl9 hs2.1 hsh (cel g r 1).toNat (by omega)).b
    have hs4 := piP_b (met := M 1) (len := M 2) (p := blP g r (cel g r 0).toNat) hgr hl9 hs2.1 (cel g r 1).toNat (by omega)
    have hc1 := b1.2.2.2
    have s1 := hh.lx b1.1 (by omega)
    have hW1 := s1.1.2.2.1.1
    have w28 := (s1.1.2.2.1.2.2.2.2.1 r hr.1 hr.2).1.2.1
    refine ⟨c1, A1, J1, t1, k1, ?_, b1⟩
    rw [fL_rows_68, wdR10 hW1, wdA28 hW1 r _ (by omega), w28, if_pos (Int32.le_refl _)]
/-- the class's row's text, and the law's -/
def wrT (M : AI) (g : Int → Int) (r : Int) : TP := if cel g r 2 = -1 then wpP (M 1) (M 2) g r (wbP g r (cel g r 0).toNat) (cel g r 1).toNat else tN (cel g r 2) (tS 1000044 (wpP (M 1) (M 2) g r (wbP g r (cel g r 0).toNat) (cel g r 1).toNat))
theorem n_rows133 (hh : LwD C0 N0 n pl sp tv cap c0 A0 J0 M g w d q) (hro : RO C0 N0 n cap c0 1300 3000) (hr : 0 ≤ r ∧ r < M 0 3) (hb : BX 2 27 c0 c A0 A J0 J B tvb capb (wpP (M 1) (M 2) g r (wbP g r (cel g r 0).toNat) (cel g r 1).toNat)) (r2 : _) : ∃ (c' : CC) (A' : AI) (J' : JI) (tvb' capb' : Nat), fL_rows_133 r2 0 w (ii r) B (CW c A J) = fL_rows_159 r2 0 w (ii r) B (CW c' A' J') ∧ BX 2 27 c0 c' A0 A' J0 J' B tvb' capb' (wrT M g r) ∧ Sh (rwT M g r) (wrT M g r) ∧ (0 ≤ (rwT M g r).1 ∧ (rwT M g r).1 ≤ 530) := by
  have hM := hh.1.li.1
  have hG := hh.1.li.2.2.2
  have h38 := hM.1.2.1
  have h39 := hM.1.2.2.2.2.2.2.2
  have h4 := hh.1.2.2.2.2.1
  have hgr := hG.1.1 r hr.1 (by omega)
  have b0 := hgr.1
  have b1 := hgr.2.1
  have b2 := hgr.2.2.2.2.1
  have b3 := hgr.2.2.2.2.2.1
  have b4 := hgr.2.2.2.2.2.2
  have hgb := gapM_b hM hgr
  have h120 := hh.p120 hr
  have hl9 : ∀ k, 0 ≤ k → k < 10 → M 2 k ≤ 99 := fun k a b => (hM.2.2.1 k a b).2
  have hs2 := blP_b hgr (cel g r 0).toNat (by omega)
  have hsh := wpP_h (met := M 1) hgr hl9 hs2.1 (wbP_h hgr (cel g r 0).toNat (by omega)) (cel g r 1).toNat (by omega)
  have hs4 := piP_b (met := M 1) (len := M 2) (p := blP g r (cel g r 0).toNat) hgr hl9 hs2.1 (cel g r 1).toNat (by omega)
  have hs3 := hsh.b
  have hc1 := hb.2.2.2
  have s1 := hh.lx hb.1 (by omega)
  have hW1 := s1.1.2.2.1.1
  have w29 := (s1.1.2.2.1.2.2.2.2.1 r hr.1 hr.2).1.2.2.1
  unfold wrT rwT
  by_cases y : cel g r 2 = -1
  · rw [if_pos y, if_pos y]
    refine ⟨c, A, J, tvb, capb, ?_, hb, hsh, by omega⟩
    rw [fL_rows_133, wdR11 hW1, wdA29 hW1 r _ (by omega), w29, if_pos (by rw [il0, ii_lt _ _ (by omega)]; omega)]
  · rw [if_neg y, if_neg y]
    obtain ⟨c2, A2, J2, t2, k2, e2, b2⟩ := k_bS hb 1000044 (by omega) (by omega)
    have hc2 := b2.2.2.2
    obtain ⟨P, hP⟩ : ∃ P, P = wpP (M 1) (M 2) g r (wbP g r (cel g r 0).toNat) (cel g r 1).toNat := ⟨_, rfl⟩
    rw [← hP] at hb hsh hs3 b2 hc2 hc1 ⊢
    have l2 : (tS 1000044 P).1 = P.1 + 2 := tS_2 _ _ w_q44.1
    have s2 := hh.lx b2.1 (by omega)
    have hW2 := s2.1.2.2.1.1
    have w29' := (s2.1.2.2.1.2.2.2.2.1 r hr.1 hr.2).1.2.2.1
    obtain ⟨c3, A3, J3, t3, k3, e3, b3⟩ := k_bN b2 (cel g r 2) (by omega) (by omega)
    have hq := tQ_b (cel g r 2) (piP (M 1) (M 2) g r (blP g r (cel g r 0).toNat) (cel g r 1).toNat) (by omega)
    have hsq : Sh (tQ (cel g r 2) (piP (M 1) (M 2) g r (blP g r (cel g r 0).toNat) (cel g r 1).toNat)) (tN (cel g r 2) (tS 1000044 P)) := (hsh.word 1000044 113 w_q44.1 w_q44.2.1 w_q44.2.2).num (tC_pos _ _ hs4.1) _
    have hsb := hsq.b
    have hnd := nd_b (cel g r 2)
    refine ⟨c3, A3, J3, t3, k3, ?_, b3, hsq, ?_⟩
    · rw [fL_rows_133, wdR11 hW1, wdA29 hW1 r _ (by omega), w29, if_neg (by rw [il0, ii_lt _ _ (by omega)]; omega), e2, wdR11 hW2, wdA29 hW2 r _ (by omega), w29', e3]
    · rw [tN_1, l2] at hsb
      omega
end ROW
