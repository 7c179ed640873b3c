/-! TEXTS, V: writeStock, writeChoice -/
def stP (met len g : Int → Int) : Nat → TP
  | 0 => tP0
  | i + 1 => tN (g (6 + i)) (tC 58 (tK met len i (if (i : Int) ≤ 0 then stP met len g i else tC 44 (stP met len g i))))
def chP (met len o t : Int → Int) : Nat → TP
  | 0 => tP0
  | i + 1 => if 0 < t i then tK met len (o i) (tC 120 (tN (t i) (tB (chP met len o t i)))) else chP met len o t i
theorem stP_s (met len g : Int → Int) (i : Int) (h : 0 ≤ i) : stP met len g (i + 1).toNat = tN (g (6 + i)) (tC 58 (tK met len i (if i ≤ 0 then stP met len g i.toNat else tC 44 (stP met len g i.toNat)))) := by
  rw [show (i + 1).toNat = i.toNat + 1 by omega]
  show tN (g (6 + (i.toNat : Int))) (tC 58 (tK met len (i.toNat : Int) (if (i.toNat : Int) ≤ 0 then stP met len g i.toNat else tC 44 (stP met len g i.toNat)))) = _
  rw [show ((i.toNat : Nat) : Int) = i by omega]
theorem chP_s (met len o t : Int → Int) (i : Int) (h : 0 ≤ i) : chP met len o t (i + 1).toNat = if 0 < t i then tK met len (o i) (tC 120 (tN (t i) (tB (chP met len o t i.toNat)))) else chP met len o t i.toNat := by
  rw [show (i + 1).toNat = i.toNat + 1 by omega]
  show (if 0 < t (i.toNat : Int) then tK met len (o (i.toNat : Int)) (tC 120 (tN (t (i.toNat : Int)) (tB (chP met len o t i.toNat)))) else chP met len o t i.toNat) = _
  rw [show ((i.toNat : Nat) : Int) = i by omega]
theorem stP_b {met len g : Int → Int} (n : Int) (hn : n ≤ 10) (hl : ∀ k, 0 ≤ k → k < 10 → len k ≤ 99) : ∀ i : Nat, (i : Int) ≤ n → 0 ≤ (stP met len g i).1 ∧ (stP met len g i).1 ≤ 9 * i
  | 0, _ => by show 0 ≤ (0 : Int) ∧ (0 : Int) ≤ _; omega
  | i + 1, h => by
    have ih := stP_b (met := met) (g := g) n hn hl i (by omega)
    have h3 := nd_2 (len i) (by have := hl i (by omega) (by omega); omega)
    have h4 := nd_b (len i)
    have h5 := nd_b (g (6 + i))
    show 0 ≤ (tK met len i (if (i : Int) ≤ 0 then stP met len g i else tC 44 (stP met len g i))).1 + 1 + nd (g (6 + i)) ∧ (tK met len i (if (i : Int) ≤ 0 then stP met len g i else tC 44 (stP met len g i))).1 + 1 + nd (g (6 + i)) ≤ _
    rw [tK_1]
    split
    · omega
    · rw [tC_1]; omega
theorem chP_b {met len o t : Int → Int} (n : Int) (hn : n ≤ 10) (hl : ∀ k, 0 ≤ k → k < 10 → len k ≤ 99) (ho : ∀ p, 0 ≤ p → p < n → 0 ≤ o p ∧ o p < 10) (ht : ∀ p, 0 ≤ p → p < n → t p ≤ 500) : ∀ i : Nat, (i : Int) ≤ n → 0 ≤ (chP met len o t i).1 ∧ (chP met len o t i).1 ≤ 8 * i
  | 0, _ => by show 0 ≤ (0 : Int) ∧ (0 : Int) ≤ _; omega
  | i + 1, h => by
    have ih := chP_b (met := met) n hn hl ho ht i (by omega)
    have h1 := tB_b (chP met len o t i)
    have h2 := ho i (by omega) (by omega)
    have h3 := nd_2 (len (o i)) (by have := hl _ h2.1 h2.2; omega)
    have h4 := nd_b (len (o i))
    have h5 := nd_3 (t i) (by have := ht i (by omega) (by omega); omega)
    have h6 := nd_b (t i)
    show 0 ≤ (if 0 < t i then tK met len (o i) (tC 120 (tN (t i) (tB (chP met len o t i)))) else chP met len o t i).1 ∧ (if 0 < t i then tK met len (o i) (tC 120 (tN (t i) (tB (chP met len o t i)))) else chP met len o t i).1 ≤ _
    split
    · rw [tK_1, tC_1, tN_1]; omega
    · omega
section TXA
variable {c c' c2 : CC} {A A' A2 : AI} {J J' J2 : JI} {pl sp tv cap tv' cap' tv2 cap2 : Nat} {p : TP} {len g o t : Int → Int} {r : Int} {M : AI} {f : Int}
theorem TL.st (h : TL c c' cap cap' A A' J J') (hs : SR A J 303 len g f) (hg : GR g) : SR A' J' 303 len g f :=
  SR_frame hs hg (fun b z hb => h.2.2.1 b z (by unfold inS at hb; omega)) (fun b z hb => h.2.2.2.1 b z (by unfold inS at hb; omega))
theorem c_st39 (h : TS c A pl sp tv cap p) (hp : p.1 ≤ 2900) (i : Int) (hS : SR A J 303 (M 2) g f) (hg : GR g) (hP : PR A pl M) (hM : SA M) (hi : 0 ≤ i ∧ i < M 0 9) (hgi : 0 ≤ g (6 + i) ∧ g (6 + i) ≤ 5000) :
    ∃ (c' : CC) (A' : AI) (J' : JI) (tv' cap' : Nat), (∀ r14 : Nat → Int32 → AS → Option AR, fX6_writeStock_39 r14 0 (ii i) (CW c A J) = r14 0 (ii (i + 1)) (CW c' A' J')) ∧ TS c' A' pl sp tv' cap' (tN (g (6 + i)) (tC 58 (tK (M 1) (M 2) i p))) ∧ TL c c' cap cap' A A' J J' := by
  have hk := h.1
  have hap := hk.2.2.2.1.1
  have h9 := hM.1.2.2.2.2.2.2.2
  have hm1 := hM.2.1 i hi.1 (by omega)
  have hm2 := hM.2.2.1 i hi.1 (by omega)
  have hnd := nd_2 (M 2 i) (by omega)
  obtain ⟨c1, A1, J1, tv1, cap1, e1, e2, e3⟩ := c_wKind (J := J) h (by omega) i (M 0 9) (M 1) (M 2) hi h9.2 hP.1.2.2.2.2.2.2.2 ⟨(hP.2.1 i hi.1 hi.2).1, hm1⟩ ⟨(hP.2.1 i hi.1 hi.2).2, hm2⟩
  obtain ⟨c2, A2, J2, tv2, cap2, f1, f2, f3⟩ := t_app (J := J1) e2 58 (by omega) (by rw [tK_1]; omega)
  have x5 := ((e3.trans f3).st hS hg).1.2 i hi.1 (by omega)
  obtain ⟨c3, A3, J3, tv3, cap3, g1, g2, g3⟩ := t_num (J := J2) f2 (g (6 + i)) (by omega) (by rw [tC_1, tK_1]; omega)
  refine ⟨c3, A3, J3, tv3, cap3, fun r14 => ?_, g2, (e3.trans f3).trans g3⟩
  have hN2 : isState c2 303 := f2.1.2.1.2.2.2.1
  rw [fX6_writeStock_39, lkV hk, e1, k_Cl e3.1, q_V, lkR7 e2.1, sbV e2.1, il58, f1, k_Cl f3.1, q_R, lkR7 f2.1, lkR3 f2.1, stR1 hN2, stA2 hN2 _ _ (by omega), x5, sbV f2.1, g1, k_Cl g3.1, q_R, il1, lt_q, ii_add]
theorem c_stLoop (h : TS c A pl sp tv cap tP0) (hS : SR A J 303 (M 2) g f) (hg : GR g) (hP : PR A pl M) (hM : SA M) (hL : GL g) :
    ∃ (c' : CC) (A' : AI) (J' : JI) (tv' cap' : Nat), fX6_writeStock_14 FU 0 (ii 0) (CW c A J) = some (Sum.inl (some (Value.int (ii ((stP (M 1) (M 2) g (M 0 9).toNat).1)))), CW c' A' J') ∧ TS c' A' pl sp tv' cap' (stP (M 1) (M 2) g (M 0 9).toNat) ∧ TL c c' cap cap' A A' J J' := by
  have hap := h.1.2.2.2.1.1
  have h9 := hM.1.2.2.2.2.2.2.2
  refine lp (fun n i (s : CC × AI × JI) => fX6_writeStock_14 n 0 (ii i) (CW s.1 s.2.1 s.2.2)) (fun x => ∃ (c' : CC) (A' : AI) (J' : JI) (tv' cap' : Nat), x = some (Sum.inl (some (Value.int (ii ((stP (M 1) (M 2) g (M 0 9).toNat).1)))), CW c' A' J') ∧ TS c' A' pl sp tv' cap' (stP (M 1) (M 2) g (M 0 9).toNat) ∧ TL c c' cap cap' A A' J J')
    (fun i s => 0 ≤ i ∧ ∃ tv' cap' : Nat, TS s.1 s.2.1 pl sp tv' cap' (stP (M 1) (M 2) g i.toNat) ∧ TL c s.1 cap cap' A s.2.1 J s.2.2) (M 0 9) ?_ ?_ FU 0 (c, A, J) (by omega) ⟨by omega, tv, cap, h, TL.refl _ _ _ _⟩ (by have := FU_e; omega)
  · rintro n i ⟨c1, A1, J1⟩ hi ⟨hI, tv1, cap1, hT, hTL⟩
    dsimp only at hT hTL ⊢
    have hk1 := hT.1
    have hPl1 : isPlan c1 pl := hk1.2.2.2.1.2.1
    have hP1 := hTL.pr hap hP
    have p7 := hP1.1.2.2.2.2.2.2.2
    have hb := stP_b (met := M 1) (len := M 2) (g := g) (M 0 9) h9.2 (fun k a b => (hM.2.2.1 k a b).2) i.toNat (by omega)
    have hgi := hL i hI (by omega)
    by_cases y : i ≤ 0
    · obtain ⟨c2, A2, J2, tv2, cap2, e1, e2, e3⟩ := c_st39 (J := J1) hT (by omega) i (hTL.st hS hg) hg hP1 hM ⟨hI, hi⟩ hgi
      refine Or.inr ⟨(c2, A2, J2), ⟨by omega, tv2, cap2, ?_, hTL.trans e3⟩, ?_⟩
      · rw [stP_s _ _ g i hI, if_pos y]; exact e2
      · dsimp only
        rw [fX6_writeStock_14, lkR8 hk1, plI7 hPl1, p7, if_neg (by rw [ii_le _ _ (by omega)]; omega), il0, if_pos (by rw [ii_le _ _ (by omega)]; exact y), e1]
    · obtain ⟨c2, A2, J2, tv2, cap2, f1, f2, f3⟩ := t_app (J := J1) hT 44 (by omega) (by omega)
      have hTL2 := hTL.trans f3
      obtain ⟨c3, A3, J3, tv3, cap3, e1, e2, e3⟩ := c_st39 (J := J2) f2 (by rw [tC_1]; omega) i (hTL2.st hS hg) hg (hTL2.pr hap hP) hM ⟨hI, hi⟩ hgi
      refine Or.inr ⟨(c3, A3, J3), ⟨by omega, tv3, cap3, ?_, hTL2.trans e3⟩, ?_⟩
      · rw [stP_s _ _ g i hI, if_neg y]; exact e2
      · dsimp only
        rw [fX6_writeStock_14, lkR8 hk1, plI7 hPl1, p7, if_neg (by rw [ii_le _ _ (by omega)]; omega), il0, if_neg (by rw [ii_le _ _ (by omega)]; exact y), lkR7 hk1, sbV hk1, il44, f1, k_Cl f3.1, q_R, e1]
  · rintro n ⟨c1, A1, J1⟩ ⟨hI, tv1, cap1, hT, hTL⟩
    dsimp only at hT hTL ⊢
    have hk1 := hT.1
    have hPl1 : isPlan c1 pl := hk1.2.2.2.1.2.1
    have p7 := (hTL.pr hap hP).1.2.2.2.2.2.2.2
    have hl := t_len (J := J1) hk1 _ hT.2.1.1
    refine ⟨c1, A1, J1, tv1, cap1, ?_, hT, hTL⟩
    rw [fX6_writeStock_14, lkR8 hk1, plI7 hPl1, p7, if_pos (Int32.le_refl _), fX6_writeStock_77, lkR7 hk1, sbV hk1, hl, k_C, q_I]
theorem c_chLoop (h : TS c A pl sp tv cap tP0) (hP : PR A pl M) (hM : SA M) (h3 : ∀ q, 0 ≤ q → q < M 0 9 → A (pl + 3) q = o q) (ho : ∀ q, 0 ≤ q → q < M 0 9 → 0 ≤ o q ∧ o q < M 0 9) (h20 : ∀ q, 0 ≤ q → q < M 0 9 → A 20 (o q) = t q) (ht : ∀ q, 0 ≤ q → q < M 0 9 → 0 ≤ t q ∧ t q ≤ 500) :
    ∃ (c' : CC) (A' : AI) (J' : JI) (tv' cap' : Nat), fX6_writeChoice_46 FU 0 (ii 0) (CW c A J) = fX6_writeChoice_125 0 (CW c' A' J') ∧ TS c' A' pl sp tv' cap' (chP (M 1) (M 2) o t (M 0 9).toNat) ∧ TL c c' cap cap' A A' J J' := by
  have hap := h.1.2.2.2.1.1
  have h9 := hM.1.2.2.2.2.2.2.2
  refine lp (fun n i (s : CC × AI × JI) => fX6_writeChoice_46 n 0 (ii i) (CW s.1 s.2.1 s.2.2)) (fun x => ∃ (c' : CC) (A' : AI) (J' : JI) (tv' cap' : Nat), x = fX6_writeChoice_125 0 (CW c' A' J') ∧ TS c' A' pl sp tv' cap' (chP (M 1) (M 2) o t (M 0 9).toNat) ∧ TL c c' cap cap' A A' J J')
    (fun i s => 0 ≤ i ∧ ∃ tv' cap' : Nat, TS s.1 s.2.1 pl sp tv' cap' (chP (M 1) (M 2) o t i.toNat) ∧ TL c s.1 cap cap' A s.2.1 J s.2.2) (M 0 9) ?_ ?_ FU 0 (c, A, J) (by omega) ⟨by omega, tv, cap, h, TL.refl _ _ _ _⟩ (by have := FU_e; omega)
  · rintro n i ⟨c1, A1, J1⟩ hi ⟨hI, tv1, cap1, hT, hTL⟩
    dsimp only at hT hTL ⊢
    have hk1 := hT.1
    have hPl1 : isPlan c1 pl := hk1.2.2.2.1.2.1
    have hSv1 : isSolver c1 4 := hk1.2.1.2.1
    have hP1 := hTL.pr hap hP
    have p7 := hP1.1.2.2.2.2.2.2.2
    have hb := chP_b (met := M 1) (len := M 2) (o := o) (t := t) (M 0 9) h9.2 (fun k a b => (hM.2.2.1 k a b).2) (fun q a b => by have := ho q a b; omega) (fun q a b => (ht q a b).2) i.toNat (by omega)
    have x3 : A1 (pl + 3) i = o i := (hTL.2.2.1 _ _ (by omega)).trans (h3 i hI hi)
    have x20 : A1 (4 + 16) (o i) = t i := (hTL.2.2.1 _ _ (by omega)).trans (h20 i hI hi)
    have hoi := ho i hI hi
    have hti := ht i hI hi
    by_cases y : 0 < t i
    · have hb1 := tB_b (chP (M 1) (M 2) o t i.toNat)
      have hnd := nd_b (t i)
      have hm1 := hM.2.1 (o i) hoi.1 (by omega)
      have hm2 := hM.2.2.1 (o i) hoi.1 (by omega)
      obtain ⟨c2, A2, J2, tv2, cap2, e1, e2, e3⟩ := c_gapB (J := J1) hT (by omega)
      have hSv2 : isSolver c2 4 := e2.1.2.1.2.1
      have y20 : A2 (4 + 16) (o i) = t i := ((hTL.trans e3).2.2.1 _ _ (by omega)).trans (h20 i hI hi)
      obtain ⟨c3, A3, J3, tv3, cap3, f1, f2, f3⟩ := t_num (J := J2) e2 (t i) (by omega) (by omega)
      obtain ⟨c4, A4, J4, tv4, cap4, g1, g2, g3⟩ := t_app (J := J3) f2 120 (by omega) (by rw [tN_1]; omega)
      have hTL4 := ((hTL.trans e3).trans f3).trans g3
      have hP4 := hTL4.pr hap hP
      obtain ⟨c5, A5, J5, tv5, cap5, i1, i2, i3⟩ := c_wKind (J := J4) g2 (by rw [tC_1, tN_1]; omega) (o i) (M 0 9) (M 1) (M 2) hoi h9.2 hP4.1.2.2.2.2.2.2.2 ⟨(hP4.2.1 _ hoi.1 hoi.2).1, hm1⟩ ⟨(hP4.2.1 _ hoi.1 hoi.2).2, hm2⟩
      refine Or.inr ⟨(c5, A5, J5), ⟨by omega, tv5, cap5, ?_, hTL4.trans i3⟩, ?_⟩
      · rw [chP_s _ _ o t i hI, if_pos y]; exact i2
      · dsimp only
        rw [fX6_writeChoice_46, lkR8 hk1, plI7 hPl1, p7, if_neg (by rw [ii_le _ _ (by omega)]; omega), lkR8 hk1, plR10 hPl1, plA3 hPl1 _ _ (by omega), x3, lkR1 hk1, svR4 hSv1, svA16 hSv1 _ _ (by omega), x20, il0, if_neg (by rw [ii_le _ _ (by omega)]; omega), lkV hk1, e1, k_Cl e3.1, q_V, lkR7 e2.1, lkR1 e2.1, svR4 hSv2, svA16 hSv2 _ _ (by omega), y20, sbV e2.1, f1, k_Cl f3.1, q_R, lkR7 f2.1, sbV f2.1, il120, g1, k_Cl g3.1, q_R, lkV g2.1, i1, k_Cl i3.1, q_V, fX6_writeChoice_119, il1, lt_q, ii_add]
    · refine Or.inr ⟨(c1, A1, J1), ⟨by omega, tv1, cap1, ?_, hTL⟩, ?_⟩
      · rw [chP_s _ _ o t i hI, if_neg y]; exact hT
      · dsimp only
        rw [fX6_writeChoice_46, lkR8 hk1, plI7 hPl1, p7, if_neg (by rw [ii_le _ _ (by omega)]; omega), lkR8 hk1, plR10 hPl1, plA3 hPl1 _ _ (by omega), x3, lkR1 hk1, svR4 hSv1, svA16 hSv1 _ _ (by omega), x20, il0, if_pos (by rw [ii_le _ _ (by omega)]; omega), fX6_writeChoice_119, il1, lt_q, ii_add]
  · rintro n ⟨c1, A1, J1⟩ ⟨hI, tv1, cap1, hT, hTL⟩
    dsimp only at hT hTL ⊢
    have hk1 := hT.1
    have hPl1 : isPlan c1 pl := hk1.2.2.2.1.2.1
    have p7 := (hTL.pr hap hP).1.2.2.2.2.2.2.2
    refine ⟨c1, A1, J1, tv1, cap1, ?_, hT, hTL⟩
    rw [fX6_writeChoice_46, lkR8 hk1, plI7 hPl1, p7, if_pos (Int32.le_refl _)]
theorem c_chEnd (h : TS c A pl sp tv cap p) (hp : p.1 ≤ 2900) (op : Int) (h7 : A 4 7 = op) (hop : -1 ≤ op ∧ op ≤ 20) :
    ∃ (c' : CC) (A' : AI) (J' : JI) (tv' cap' : Nat), fX6_writeChoice_125 0 (CW c A J) = some (Sum.inl (some (Value.int (ii ((if op = -1 then p else tQ op p).1)))), CW c' A' J') ∧ TS c' A' pl sp tv' cap' (if op = -1 then p else tQ op p) ∧ TL c c' cap cap' A A' J J' := by
  have hk := h.1
  have hSv : isSolver c 4 := hk.2.1.2.1
  by_cases y : op = -1
  · rw [if_pos y]
    have hl := t_len (J := J) hk p.1 h.2.1.1
    refine ⟨c, A, J, tv, cap, ?_, h, TL.refl _ _ _ _⟩
    rw [fX6_writeChoice_125, lkR1 hk, svI7 hSv, h7, y, if_pos (by decide), fX6_writeChoice_147, lkR7 hk, sbV hk, hl, k_C, q_I]
  · rw [if_neg y]
    obtain ⟨c1, A1, J1, tv1, cap1, e1, e2, e3⟩ := c_wOpen (J := J) h (by omega) op (by omega)
    have hl := t_len (J := J1) e2.1 _ e2.2.1.1
    refine ⟨c1, A1, J1, tv1, cap1, ?_, e2, e3⟩
    rw [fX6_writeChoice_125, lkR1 hk, svI7 hSv, h7, show (-1 : Int32) = ii (-1) from rfl, if_neg (by rw [ii_eq _ _ (by omega)]; exact y), lkR1 hk, svI7 hSv, h7, lkV hk, e1, k_Cl e3.1, q_V, fX6_writeChoice_147, lkR7 e2.1, sbV e2.1, hl, k_C, q_I]
end TXA
section TXB
variable {K : Nat × Nat} {M M' N : AI} {g o t : Int → Int} {p : TP} {r : Int}
theorem m_st34 (h : TM M p) (hp : 0 ≤ p.1 ∧ p.1 ≤ 2900) (i : Int) (hM : SA M) (hi : 0 ≤ i ∧ i < M 0 9) (hgi : 0 ≤ g (6 + i) ∧ g (6 + i) ≤ 5000) :
    ∃ M', (∀ r16 : Nat → Int32 → AS → Option AR, fX7_writeStock_34 r16 0 (ii i) (NW K (mg M g)) = r16 0 (ii (i + 1)) (NW K (mg M' g))) ∧ TM M' (tN (g (6 + i)) (tC 58 (tK (M 1) (M 2) i p))) ∧ FM M M' := by
  have h9 := hM.1.2.2.2.2.2.2.2
  have hm1 := hM.2.1 i hi.1 (by omega)
  have hm2 := hM.2.2.1 i hi.1 (by omega)
  have hnd := nd_2 (M 2 i) (by omega)
  have hnb := nd_b (M 2 i)
  obtain ⟨M1, e1, e2, e3⟩ := m_kind (K := K) (g := g) h (by omega) i (by omega) hm1 hm2
  obtain ⟨M2, f1, f2, f3⟩ := m_says (K := K) (g := g) e2 58 (by rw [tK_1]; omega)
  obtain ⟨M3, g1, g2, g3⟩ := m_num (K := K) (g := g) f2 (g (6 + i)) (by omega) (by rw [tC_1, tK_1]; omega)
  refine ⟨M3, fun r16 => ?_, g2, (e3.trans f3).trans g3⟩
  simp (disch := first | assumption | omega) only [fX7_writeStock_34, nR1, nA1, nU1, nR2, nA2, nU2, nR3, nA3, nU3, nR4, nA4, nU4, nR5, nA5, nU5, nR6, nA6, nU6, nR7, nA7, nU7, nR8, nA8, nU8, nR9, nA9, nU9, nR10, nA10, nU10, nR11, nA11, nU11, nR12, nA12, nU12, nR13, nA13, nU13, nR14, nA14, nU14, nR15, nA15, nU15, nR16, nA16, nU16, nI0, nS0, nI1, nS1, nI2, nS2, nI3, nS3, nI4, nS4, nI5, nS5, nI6, nS6, nI7, nS7, nI8, nS8, nI9, nS9, nI15, nS15, nI18, nS18, nI19, nS19, nI20, nS20, nI21, nS21, nI22, nS22, nI23, nS23, nI24, nS24, nI25, nS25, nI26, nS26, nI27, nS27, nI32, nS32, nI36, nS36, nI37, nS37, nI40, nS40, nSZ1, nV, nC, ↓reduceIte, tr_lt, fa_lt, tr_le, fa_le, tr_eq, fa_eq, and_true, true_and, and_false, false_and, il0, il1, il2, il3, il4, il5, il6, il7, il8, il9, il10, il11, il12, il15, il16, il20, il24, il31, il32, il44, il45, il48, il50, il57, il58, il59, il63, il91, il93, il97, il99, il100, il109, il113, il119, il120, il122, il200, il255, il480, il500, il501, il512, il999, il4112, il41120, il1000000, il1000003, ii_add, ii_sub, ii_mul, ii_neg, ii_le, ii_lt, ii_eq, ii_div, q_I, q_V, q_R, lt_q, rZ_q, md_M, md_16, md_4, md_8, md_10, if_true, if_false, if_pos, if_neg, mg_3, mg_0, mg_1, mg_2, mg_k, mg_up3, mg_upk, e1, f1, g1]
theorem m_chEnd (h : TM M p) (hp : 0 ≤ p.1 ∧ p.1 ≤ 2900) (op : Int) (h36 : M 0 36 = op) (hop : -1 ≤ op ∧ op ≤ 20) : ∃ M', fX7_writeChoice_99 0 (NW K (mg M g)) = some (Sum.inl (some (Value.int (ii ((if op = -1 then p else tQ op p).1)))), NW K (mg M' g)) ∧ TM M' (if op = -1 then p else tQ op p) ∧ FM M M' := by
  obtain ⟨M', e1, e2, e3⟩ := m_quoin (K := K) (g := g) h (by omega) op hop
  have h40 := e2.1
  refine ⟨M', ?_, e2, e3⟩
  rw [fX7_writeChoice_99, nI36, mg_0, h36, nV, e1, nC, q_V, nI40, mg_0, h40]
end TXB
section TXC
variable {C0 N0 n : Nat} {K : Nat × Nat} {c : CC} {A : AI} {J : JI} {M : AI} {g g' o : Int → Int} {pl sp tv cap : Nat} {f B : Int}
end TXC
