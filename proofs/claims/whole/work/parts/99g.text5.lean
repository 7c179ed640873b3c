/-! TEXTS, V: writeStock, writeChoice -/
def stP (met len g : Int → Int) : Nat → TP
  | 0 => tP0
  | i + 1 => tN (g (6 + i)) (tC 58 (tK met len i (if (i : Int) ≤ 0 then stP met len g i else tC 44 (stP met len g i))))
def chP (met len o t : Int → Int) : Nat → TP
  | 0 => tP0
  | i + 1 => if 0 < t i then tK met len (o i) (tC 120 (tN (t i) (tB (chP met len o t i)))) else chP met len o t i
theorem stP_s (met len g : Int → Int) (i : Int) (h : 0 ≤ i) : stP met len g (i + 1).toNat = tN (g (6 + i)) (tC 58 (tK met len i (if i ≤ 0 then stP met len g i.toNat else tC 44 (stP met len g i.toNat)))) := by
  rw [show (i + 1).toNat = i.toNat + 1 by omega]
  show tN (g (6 + (i.toNat : Int))) (tC 58 (tK met len (i.toNat : Int) (if (i.toNat : Int) ≤ 0 then stP met len g i.toNat else tC 44 (stP met len g i.toNat)))) = _
  rw [show ((i.toNat : Nat) : Int) = i by omega]
theorem chP_s (met len o t : Int → Int) (i : Int) (h : 0 ≤ i) : chP met len o t (i + 1).toNat = if 0 < t i then tK met len (o i) (tC 120 (tN (t i) (tB (chP met len o t i.toNat)))) else chP met len o t i.toNat := by
  rw [show (i + 1).toNat = i.toNat + 1 by omega]
  show (if 0 < t (i.toNat : Int) then tK met len (o (i.toNat : Int)) (tC 120 (tN (t (i.toNat : Int)) (tB (chP met len o t i.toNat)))) else chP met len o t i.toNat) = _
  rw [show ((i.toNat : Nat) : Int) = i by omega]
theorem stP_b {met len g : Int → Int} (n : Int) (hn : n ≤ 10) (hl : ∀ k, 0 ≤ k → k < 10 → len k ≤ 99) : ∀ i : Nat, (i : Int) ≤ n → 0 ≤ (stP met len g i).1 ∧ (stP met len g i).1 ≤ 9 * i
  | 0, _ => by show 0 ≤ (0 : Int) ∧ (0 : Int) ≤ _; omega
  | i + 1, h => by
    have ih := stP_b (met := met) (g := g) n hn hl i (by omega)
    have h3 := nd_2 (len i) (by have := hl i (by omega) (by omega); omega)
    have h4 := nd_b (len i)
    have h5 := nd_b (g (6 + i))
    show 0 ≤ (tK met len i (if (i : Int) ≤ 0 then stP met len g i else tC 44 (stP met len g i))).1 + 1 + nd (g (6 + i)) ∧ (tK met len i (if (i : Int) ≤ 0 then stP met len g i else tC 44 (stP met len g i))).1 + 1 + nd (g (6 + i)) ≤ _
    rw [tK_1]
    split
    · omega
    · rw [tC_1]; omega
theorem chP_b {met len o t : Int → Int} (n : Int) (hn : n ≤ 10) (hl : ∀ k, 0 ≤ k → k < 10 → len k ≤ 99) (ho : ∀ p, 0 ≤ p → p < n → 0 ≤ o p ∧ o p < 10) (ht : ∀ p, 0 ≤ p → p < n → t p ≤ 500) : ∀ i : Nat, (i : Int) ≤ n → 0 ≤ (chP met len o t i).1 ∧ (chP met len o t i).1 ≤ 8 * i
  | 0, _ => by show 0 ≤ (0 : Int) ∧ (0 : Int) ≤ _; omega
  | i + 1, h => by
    have ih := chP_b (met := met) n hn hl ho ht i (by omega)
    have h1 := tB_b (chP met len o t i)
    have h2 := ho i (by omega) (by omega)
    have h3 := nd_2 (len (o i)) (by have := hl _ h2.1 h2.2; omega)
    have h4 := nd_b (len (o i))
    have h5 := nd_3 (t i) (by have := ht i (by omega) (by omega); omega)
    have h6 := nd_b (t i)
    show 0 ≤ (if 0 < t i then tK met len (o i) (tC 120 (tN (t i) (tB (chP met len o t i)))) else chP met len o t i).1 ∧ (if 0 < t i then tK met len (o i) (tC 120 (tN (t i) (tB (chP met len o t i)))) else chP met len o t i).1 ≤ _
    split
    · rw [tK_1, tC_1, tN_1]; omega
    · omega
section TXA
variable {c c' c2 : CC} {A A' A2 : AI} {J J' J2 : JI} {pl sp tv cap tv' cap' tv2 cap2 : Nat} {p : TP} {len g o t : Int → Int} {r : Int} {M : AI} {f : Int}
theorem TL.st (h : TL c c' cap cap' A A' J J') (hs : SR A J 303 len g f) (hg : GR g) : SR A' J' 303 len g f :=
  SR_frame hs hg (fun b z hb => h.2.2.1 b z (by unfold inS at hb; omega)) (fun b z hb => h.2.2.2 b z (by unfold inS at hb; omega))
theorem c_st39 (h : TS c A pl sp tv cap p) (hp : p.1 ≤ 2900) (i : Int) (hS : SR A J 303 (M 2) g f) (hg : GR g) (hP : PR A pl M) (hM : SA M) (hi : 0 ≤ i ∧ i < M 0 9) (hgi : 0 ≤ g (6 + i) ∧ g (6 + i) ≤ 5000) :
    ∃ (c' : CC) (A' : AI) (J' : JI) (tv' cap' : Nat), (∀ r14 : Nat → Int32 → AS → Option AR, fX6_writeStock_39 r14 0 (ii i) (CW c A J) = r14 0 (ii (i + 1)) (CW c' A' J')) ∧ TS c' A' pl sp tv' cap' (tN (g (6 + i)) (tC 58 (tK (M 1) (M 2) i p))) ∧ TL c c' cap cap' A A' J J' := by
  have hk := h.1
  have hap := hk.2.2.2.1.1
  have h9 := hM.1.2.2.2.2.2.2.2
  have hm1 := hM.2.1 i hi.1 (by omega)
  have hm2 := hM.2.2.1 i hi.1 (by omega)
  have hnd := nd_2 (M 2 i) (by omega)
  obtain ⟨c1, A1, J1, tv1, cap1, e1, e2, e3⟩ := c_wKind (J := J) h (by omega) i (M 0 9) (M 1) (M 2) hi h9.2 hP.1.2.2.2.2.2.2.2 ⟨(hP.2.1 i hi.1 hi.2).1, hm1⟩ ⟨(hP.2.1 i hi.1 hi.2).2, hm2⟩
  obtain ⟨c2, A2, J2, tv2, cap2, f1, f2, f3⟩ := t_app (J := J1) e2 58 (by omega) (by rw [tK_1]; omega)
  have x5 := ((e3.trans f3).st hS hg).1.2 i hi.1 (by omega)
  obtain ⟨c3, A3, J3, tv3, cap3, g1, g2, g3⟩ := t_num (J := J2) f2 (g (6 + i)) (by omega) (by rw [tC_1, tK_1]; omega)
  refine ⟨c3, A3, J3, tv3, cap3, fun r14 => ?_, g2, (e3.trans f3).trans g3⟩
  have hN2 : isState c2 303 := f2.1.2.1.2.2.2.1
  rw [fX6_writeStock_39, lkV hk, e1, k_Cl e3.1, q_V, lkR7 e2.1, sbV e2.1, il58, f1, k_Cl f3.1, q_R, lkR7 f2.1, lkR3 f2.1, stR1 hN2, stA2 hN2 _ _ (by omega), x5, sbV f2.1, g1, k_Cl g3.1, q_R, il1, lt_q, ii_add]
theorem c_stLoop (h : TS c A pl sp tv cap tP0) (hS : SR A J 303 (M 2) g f) (hg : GR g) (hP : PR A pl M) (hM : SA M) (hL : GL g) :
    ∃ (c' : CC) (A' : AI) (J' : JI) (tv' cap' : Nat), fX6_writeStock_14 FU 0 (ii 0) (CW c A J) = some (Sum.inl (some (Value.int (ii ((stP (M 1) (M 2) g (M 0 9).toNat).1)))), CW c' A' J') ∧ TS c' A' pl sp tv' cap' (stP (M 1) (M 2) g (M 0 9).toNat) ∧ TL c c' cap cap' A A' J J' := by
  have hap := h.1.2.2.2.1.1
  have h9 := hM.1.2.2.2.2.2.2.2
  refine lp (fun n i (s : CC × AI × JI) => fX6_writeStock_14 n 0 (ii i) (CW s.1 s.2.1 s.2.2)) (fun x => ∃ (c' : CC) (A' : AI) (J' : JI) (tv' cap' : Nat), x = some (Sum.inl (some (Value.int (ii ((stP (M 1) (M 2) g (M 0 9).toNat).1)))), CW c' A' J') ∧ TS c' A' pl sp tv' cap' (stP (M 1) (M 2) g (M 0 9).toNat) ∧ TL c c' cap cap' A A' J J')
    (fun i s => 0 ≤ i ∧ ∃ tv' cap' : Nat, TS s.1 s.2.1 pl sp tv' cap' (stP (M 1) (M 2) g i.toNat) ∧ TL c s.1 cap cap' A s.2.1 J s.2.2) (M 0 9) ?_ ?_ FU 0 (c, A, J) (by omega) ⟨by omega, tv, cap, h, TL.refl _ _ _ _⟩ (by have := FU_e; omega)
  · rintro n i ⟨c1, A1, J1⟩ hi ⟨hI, tv1, cap1, hT, hTL⟩
    dsimp only at hT hTL ⊢
    have hk1 := hT.1
    have hPl1 : isPlan c1 pl := hk1.2.2.2.1.2.1
    have hP1 := hTL.pr hap hP
    have p7 := hP1.1.2.2.2.2.2.2.2
    have hb := stP_b (met := M 1) (len := M 2) (g := g) (M 0 9) h9.2 (fun k a b => (hM.2.2.1 k a b).2) i.toNat (by omega)
    have hgi := hL i hI (by omega)
    by_cases y : i ≤ 0
    · obtain ⟨c2, A2, J2, tv2, cap2, e1, e2, e3⟩ := c_st39 (J := J1) hT (by omega) i (hTL.st hS hg) hg hP1 hM ⟨hI, hi⟩ hgi
      refine Or.inr ⟨(c2, A2, J2), ⟨by omega, tv2, cap2, ?_, hTL.trans e3⟩, ?_⟩
      · rw [stP_s _ _ g i hI, if_pos y]; exact e2
      · dsimp only
        rw [fX6_writeStock_14, lkR8 hk1, plI7 hPl1, p7, if_neg (by rw [ii_le _ _ (by omega)]; omega), il0, if_pos (by rw [ii_le _ _ (by omega)]; exact y), e1]
    · obtain ⟨c2, A2, J2, tv2, cap2, f1, f2, f3⟩ := t_app (J := J1) hT 44 (by omega) (by omega)
      have hTL2 := hTL.trans f3
      obtain ⟨c3, A3, J3, tv3, cap3, e1, e2, e3⟩ := c_st39 (J := J2) f2 (by rw [tC_1]; omega) i (hTL2.st hS hg) hg (hTL2.pr hap hP) hM ⟨hI, hi⟩ hgi
      refine Or.inr ⟨(c3, A3, J3), ⟨by omega, tv3, cap3, ?_, hTL2.trans e3⟩, ?_⟩
      · rw [stP_s _ _ g i hI, if_neg y]; exact e2
      · dsimp only
        rw [fX6_writeStock_14, lkR8 hk1, plI7 hPl1, p7, if_neg (by rw [ii_le _ _ (by omega)]; omega), il0, if_neg (by rw [ii_le _ _ (by omega)]; exact y), lkR7 hk1, sbV hk1, il44, f1, k_Cl f3.1, q_R, e1]
  · rintro n ⟨c1, A1, J1⟩ ⟨hI, tv1, cap1, hT, hTL⟩
    dsimp only at hT hTL ⊢
    have hk1 := hT.1
    have hPl1 : isPlan c1 pl := hk1.2.2.2.1.2.1
    have p7 := (hTL.pr hap hP).1.2.2.2.2.2.2.2
    have hl := t_len (J := J1) hk1 _ hT.2.1.1
    refine ⟨c1, A1, J1, tv1, cap1, ?_, hT, hTL⟩
    rw [fX6_writeStock_14, lkR8 hk1, plI7 hPl1, p7, if_pos (Int32.le_refl _), fX6_writeStock_77, lkR7 hk1, sbV hk1, hl, k_C, q_I]
theorem c_chLoop (h : TS c A pl sp tv cap tP0) (hP : PR A pl M) (hM : SA M) (h3 : ∀ q, 0 ≤ q → q < M 0 9 → A (pl + 3) q = o q) (ho : ∀ q, 0 ≤ q → q < M 0 9 → 0 ≤ o q ∧ o q < M 0 9) (h20 : ∀ q, 0 ≤ q → q < M 0 9 → A 20 (o q) = t q) (ht : ∀ q, 0 ≤ q → q < M 0 9 → 0 ≤ t q ∧ t q ≤ 500) :
    ∃ (c' : CC) (A' : AI) (J' : JI) (tv' cap' : Nat), fX6_writeChoice_46 FU 0 (ii 0) (CW c A J) = fX6_writeChoice_125 0 (CW c' A' J') ∧ TS c' A' pl sp tv' cap' (chP (M 1) (M 2) o t (M 0 9).toNat) ∧ TL c c' cap cap' A A' J J' := by
  have hap := h.1.2.2.2.1.1
  have h9 := hM.1.2.2.2.2.2.2.2
  refine lp (fun n i (s : CC × AI × JI) => fX6_writeChoice_46 n 0 (ii i) (CW s.1 s.2.1 s.2.2)) (fun x => ∃ (c' : CC) (A' : AI) (J' : JI) (tv' cap' : Nat), x = fX6_writeChoice_125 0 (CW c' A' J') ∧ TS c' A' pl sp tv' cap' (chP (M 1) (M 2) o t (M 0 9).toNat) ∧ TL c c' cap cap' A A' J J')
    (fun i s => 0 ≤ i ∧ ∃ tv' cap' : Nat, TS s.1 s.2.1 pl sp tv' cap' (chP (M 1) (M 2) o t i.toNat) ∧ TL c s.1 cap cap' A s.2.1 J s.2.2) (M 0 9) ?_ ?_ FU 0 (c, A, J) (by omega) ⟨by omega, tv, cap, h, TL.refl _ _ _ _⟩ (by have := FU_e; omega)
  · rintro n i ⟨c1, A1, J1⟩ hi ⟨hI, tv1, cap1, hT, hTL⟩
    dsimp only at hT hTL ⊢
    have hk1 := hT.1
    have hPl1 : isPlan c1 pl := hk1.2.2.2.1.2.1
    have hSv1 : isSolver c1 4 := hk1.2.1.2.1
    have hP1 := hTL.pr hap hP
    have p7 := hP1.1.2.2.2.2.2.2.2
    have hb := chP_b (met := M 1) (len := M 2) (o := o) (t := t) (M 0 9) h9.2 (fun k a b => (hM.2.2.1 k a b).2) (fun q a b => by have := ho q a b; omega) (fun q a b => (ht q a b).2) i.toNat (by omega)
    have x3 : A1 (pl + 3) i = o i := (hTL.2.2.1 _ _ (by omega)).trans (h3 i hI hi)
    have x20 : A1 (4 + 16) (o i) = t i := (hTL.2.2.1 _ _ (by omega)).trans (h20 i hI hi)
    have hoi := ho i hI hi
    have hti := ht i hI hi
    by_cases y : 0 < t i
    · have hb1 := tB_b (chP (M 1) (M 2) o t i.toNat)
      have hnd := nd_b (t i)
      have hm1 := hM.2.1 (o i) hoi.1 (by omega)
      have hm2 := hM.2.2.1 (o i) hoi.1 (by omega)
      obtain ⟨c2, A2, J2, tv2, cap2, e1, e2, e3⟩ := c_gapB (J := J1) hT (by omega)
      have hSv2 : isSolver c2 4 := e2.1.2.1.2.1
      have y20 : A2 (4 + 16) (o i) = t i := ((hTL.trans e3).2.2.1 _ _ (by omega)).trans (h20 i hI hi)
      obtain ⟨c3, A3, J3, tv3, cap3, f1, f2, f3⟩ := t_num (J := J2) e2 (t i) (by omega) (by omega)
      obtain ⟨c4, A4, J4, tv4, cap4, g1, g2, g3⟩ := t_app (J := J3) f2 120 (by omega) (by rw [tN_1]; omega)
      have hTL4 := ((hTL.trans e3).trans f3).trans g3
      have hP4 := hTL4.pr hap hP
      obtain ⟨c5, A5, J5, tv5, cap5, i1, i2, i3⟩ := c_wKind (J := J4) g2 (by rw [tC_1, tN_1]; omega) (o i) (M 0 9) (M 1) (M 2) hoi h9.2 hP4.1.2.2.2.2.2.2.2 ⟨(hP4.2.1 _ hoi.1 hoi.2).1, hm1⟩ ⟨(hP4.2.1 _ hoi.1 hoi.2).2, hm2⟩
      refine Or.inr ⟨(c5, A5, J5), ⟨by omega, tv5, cap5, ?_, hTL4.trans i3⟩, ?_⟩
      · rw [chP_s _ _ o t i hI, if_pos y]; exact i2
      · dsimp only
        rw [fX6_writeChoice_46, lkR8 hk1, plI7 hPl1, p7, if_neg (by rw [ii_le _ _ (by omega)]; omega), lkR8 hk1, plR10 hPl1, plA3 hPl1 _ _ (by omega), x3, lkR1 hk1, svR4 hSv1, svA16 hSv1 _ _ (by omega), x20, il0, if_neg (by rw [ii_le _ _ (by omega)]; omega), lkV hk1, e1, k_Cl e3.1, q_V, lkR7 e2.1, lkR1 e2.1, svR4 hSv2, svA16 hSv2 _ _ (by omega), y20, sbV e2.1, f1, k_Cl f3.1, q_R, lkR7 f2.1, sbV f2.1, il120, g1, k_Cl g3.1, q_R, lkV g2.1, i1, k_Cl i3.1, q_V, fX6_writeChoice_119, il1, lt_q, ii_add]
    · refine Or.inr ⟨(c1, A1, J1), ⟨by omega, tv1, cap1, ?_, hTL⟩, ?_⟩
      · rw [chP_s _ _ o t i hI, if_neg y]; exact hT
      · dsimp only
        rw [fX6_writeChoice_46, lkR8 hk1, plI7 hPl1, p7, if_neg (by rw [ii_le _ _ (by omega)]; omega), lkR8 hk1, plR10 hPl1, plA3 hPl1 _ _ (by omega), x3, lkR1 hk1, svR4 hSv1, svA16 hSv1 _ _ (by omega), x20, il0, if_pos (by rw [ii_le _ _ (by omega)]; omega), fX6_writeChoice_119, il1, lt_q, ii_add]
  · rintro n ⟨c1, A1, J1⟩ ⟨hI, tv1, cap1, hT, hTL⟩
    dsimp only at hT hTL ⊢
    have hk1 := hT.1
    have hPl1 : isPlan c1 pl := hk1.2.2.2.1.2.1
    have p7 := (hTL.pr hap hP).1.2.2.2.2.2.2.2
    refine ⟨c1, A1, J1, tv1, cap1, ?_, hT, hTL⟩
    rw [fX6_writeChoice_46, lkR8 hk1, plI7 hPl1, p7, if_pos (Int32.le_refl _)]
theorem c_chEnd (h : TS c A pl sp tv cap p) (hp : p.1 ≤ 2900) (op : Int) (h7 : A 4 7 = op) (hop : -1 ≤ op ∧ op ≤ 20) :
    ∃ (c' : CC) (A' : AI) (J' : JI) (tv' cap' : Nat), fX6_writeChoice_125 0 (CW c A J) = some (Sum.inl (some (Value.int (ii ((if op = -1 then p else tQ op p).1)))), CW c' A' J') ∧ TS c' A' pl sp tv' cap' (if op = -1 then p else tQ op p) ∧ TL c c' cap cap' A A' J J' := by
  have hk := h.1
  have hSv : isSolver c 4 := hk.2.1.2.1
  by_cases y : op = -1
  · rw [if_pos y]
    have hl := t_len (J := J) hk p.1 h.2.1.1
    refine ⟨c, A, J, tv, cap, ?_, h, TL.refl _ _ _ _⟩
    rw [fX6_writeChoice_125, lkR1 hk, svI7 hSv, h7, y, if_pos (by decide), fX6_writeChoice_147, lkR7 hk, sbV hk, hl, k_C, q_I]
  · rw [if_neg y]
    obtain ⟨c1, A1, J1, tv1, cap1, e1, e2, e3⟩ := c_wOpen (J := J) h (by omega) op (by omega)
    have hl := t_len (J := J1) e2.1 _ e2.2.1.1
    refine ⟨c1, A1, J1, tv1, cap1, ?_, e2, e3⟩
    rw [fX6_writeChoice_125, lkR1 hk, svI7 hSv, h7, show (-1 : Int32) = ii (-1) from rfl, if_neg (by rw [ii_eq _ _ (by omega)]; exact y), lkR1 hk, svI7 hSv, h7, lkV hk, e1, k_Cl e3.1, q_V, fX6_writeChoice_147, lkR7 e2.1, sbV e2.1, hl, k_C, q_I]
end TXA
section TXB
variable {K : Nat × Nat} {M M' N : AI} {g o t : Int → Int} {p : TP} {r : Int}
theorem m_st34 (h : TM M p) (hp : 0 ≤ p.1 ∧ p.1 ≤ 2900) (i : Int) (hM : SA M) (hi : 0 ≤ i ∧ i < M 0 9) (hgi : 0 ≤ g (6 + i) ∧ g (6 + i) ≤ 5000) :
    ∃ M', (∀ r16 : Nat → Int32 → AS → Option AR, fX7_writeStock_34 r16 0 (ii i) (NW K (mg M g)) = r16 0 (ii (i + 1)) (NW K (mg M' g))) ∧ TM M' (tN (g (6 + i)) (tC 58 (tK (M 1) (M 2) i p))) ∧ FM M M' := by
  have h9 := hM.1.2.2.2.2.2.2.2
  have hm1 := hM.2.1 i hi.1 (by omega)
  have hm2 := hM.2.2.1 i hi.1 (by omega)
  have hnd := nd_2 (M 2 i) (by omega)
  have hnb := nd_b (M 2 i)
  obtain ⟨M1, e1, e2, e3⟩ := m_kind (K := K) (g := g) h (by omega) i (by omega) hm1 hm2
  obtain ⟨M2, f1, f2, f3⟩ := m_says (K := K) (g := g) e2 58 (by rw [tK_1]; omega)
  obtain ⟨M3, g1, g2, g3⟩ := m_num (K := K) (g := g) f2 (g (6 + i)) (by omega) (by rw [tC_1, tK_1]; omega)
  refine ⟨M3, fun r16 => ?_, g2, (e3.trans f3).trans g3⟩
  simp (disch := first | assumption | omega) only [fX7_writeStock_34, nR1, nA1, nU1, nR2, nA2, nU2, nR3, nA3, nU3, nR4, nA4, nU4, nR5, nA5, nU5, nR6, nA6, nU6, nR7, nA7, nU7, nR8, nA8, nU8, nR9, nA9, nU9, nR10, nA10, nU10, nR11, nA11, nU11, nR12, nA12, nU12, nR13, nA13, nU13, nR14, nA14, nU14, nR15, nA15, nU15, nR16, nA16, nU16, nI0, nS0, nI1, nS1, nI2, nS2, nI3, nS3, nI4, nS4, nI5, nS5, nI6, nS6, nI7, nS7, nI8, nS8, nI9, nS9, nI15, nS15, nI18, nS18, nI19, nS19, nI20, nS20, nI21, nS21, nI22, nS22, nI23, nS23, nI24, nS24, nI25, nS25, nI26, nS26, nI27, nS27, nI32, nS32, nI36, nS36, nI37, nS37, nI40, nS40, nSZ1, nV, nC, ↓reduceIte, tr_lt, fa_lt, tr_le, fa_le, tr_eq, fa_eq, and_true, true_and, and_false, false_and, il0, il1, il2, il3, il4, il5, il6, il7, il8, il9, il10, il11, il12, il15, il16, il20, il24, il31, il32, il44, il45, il48, il50, il57, il58, il59, il63, il91, il93, il97, il99, il100, il109, il113, il119, il120, il122, il200, il255, il480, il500, il501, il512, il999, il4112, il41120, il1000000, il1000003, ii_add, ii_sub, ii_mul, ii_neg, ii_le, ii_lt, ii_eq, ii_div, q_I, q_V, q_R, lt_q, rZ_q, md_M, md_16, md_4, md_8, md_10, if_true, if_false, if_pos, if_neg, mg_3, mg_0, mg_1, mg_2, mg_k, mg_up3, mg_upk, e1, f1, g1]
theorem m_stLoop (h : TM M tP0) (hM : SA M) (hL : GL g) : ∃ M', fX7_writeStock_16 FU 0 (ii 0) (NW K (mg M g)) = some (Sum.inl (some (Value.int (ii ((stP (M 1) (M 2) g (M 0 9).toNat).1)))), NW K (mg M' g)) ∧ TM M' (stP (M 1) (M 2) g (M 0 9).toNat) ∧ FM M M' := by
  have h9 := hM.1.2.2.2.2.2.2.2
  refine lp (fun n i (s : AI) => fX7_writeStock_16 n 0 (ii i) (NW K (mg s g))) (fun x => ∃ M', x = some (Sum.inl (some (Value.int (ii ((stP (M 1) (M 2) g (M 0 9).toNat).1)))), NW K (mg M' g)) ∧ TM M' (stP (M 1) (M 2) g (M 0 9).toNat) ∧ FM M M')
    (fun i s => 0 ≤ i ∧ TM s (stP (M 1) (M 2) g i.toNat) ∧ FM M s) (M 0 9) ?_ ?_ FU 0 M (by omega) ⟨by omega, h, FM.refl _⟩ (by have := FU_e; omega)
  · rintro n i M1 hi ⟨hI, hT, hF⟩
    have d1 : M1 1 = M 1 := funext fun z => hF.2 1 z (by omega) (by omega)
    have d2 : M1 2 = M 2 := funext fun z => hF.2 2 z (by omega) (by omega)
    have d9 : M1 0 9 = M 0 9 := hF.1 9 (by omega)
    have hM1 : SA M1 := hM.at (fun z a b => hF.1 z (by omega)) d1 d2
    have hb := stP_b (met := M 1) (len := M 2) (g := g) (M 0 9) h9.2 (fun k a b => (hM.2.2.1 k a b).2) i.toNat (by omega)
    have hgi := hL i hI (by omega)
    by_cases y : i ≤ 0
    · obtain ⟨M2, e1, e2, e3⟩ := m_st34 (K := K) hT (by omega) i hM1 ⟨hI, by omega⟩ hgi
      rw [d1, d2] at e2
      refine Or.inr ⟨M2, ⟨by omega, ?_, hF.trans e3⟩, ?_⟩
      · rw [stP_s _ _ g i hI, if_pos y]; exact e2
      · rw [fX7_writeStock_16, nI9, mg_0, d9, if_neg (by rw [ii_le _ _ (by omega)]; omega), il0, if_pos (by rw [ii_le _ _ (by omega)]; exact y), e1]
    · obtain ⟨M2, f1, f2, f3⟩ := m_says (K := K) (g := g) hT 44 (by omega)
      have b1 : M2 1 = M 1 := funext fun z => (f3.2 1 z (by omega) (by omega)).trans (congrFun d1 z)
      have b2 : M2 2 = M 2 := funext fun z => (f3.2 2 z (by omega) (by omega)).trans (congrFun d2 z)
      have b9 : M2 0 9 = M 0 9 := (f3.1 9 (by omega)).trans d9
      have hM2 : SA M2 := hM.at (fun z a b => (f3.1 z (by omega)).trans (hF.1 z (by omega))) b1 b2
      obtain ⟨M3, e1, e2, e3⟩ := m_st34 (K := K) f2 (by rw [tC_1]; omega) i hM2 ⟨hI, by omega⟩ hgi
      rw [b1, b2] at e2
      refine Or.inr ⟨M3, ⟨by omega, ?_, (hF.trans f3).trans e3⟩, ?_⟩
      · rw [stP_s _ _ g i hI, if_neg y]; exact e2
      · rw [fX7_writeStock_16, nI9, mg_0, d9, if_neg (by rw [ii_le _ _ (by omega)]; omega), il0, if_neg (by rw [ii_le _ _ (by omega)]; exact y), nV, il44, f1, nC, q_V, e1]
  · rintro n M1 ⟨hI, hT, hF⟩
    have d9 : M1 0 9 = M 0 9 := hF.1 9 (by omega)
    have h40 := hT.1
    refine ⟨M1, ?_, hT, hF⟩
    rw [fX7_writeStock_16, nI9, mg_0, d9, if_pos (Int32.le_refl _), nI40, mg_0, h40]
theorem m_chLoop (h : TM M tP0) (hM : SA M) (h12 : ∀ q, 0 ≤ q → q < M 0 9 → M 12 q = o q) (ho : ∀ q, 0 ≤ q → q < M 0 9 → 0 ≤ o q ∧ o q < M 0 9) (h14 : ∀ q, 0 ≤ q → q < M 0 9 → M 14 (o q) = t q) (ht : ∀ q, 0 ≤ q → q < M 0 9 → 0 ≤ t q ∧ t q ≤ 500) :
    ∃ M', fX7_writeChoice_36 FU 0 (ii 0) (NW K (mg M g)) = fX7_writeChoice_99 0 (NW K (mg M' g)) ∧ TM M' (chP (M 1) (M 2) o t (M 0 9).toNat) ∧ FM M M' := by
  have h9 := hM.1.2.2.2.2.2.2.2
  refine lp (fun n i (s : AI) => fX7_writeChoice_36 n 0 (ii i) (NW K (mg s g))) (fun x => ∃ M', x = fX7_writeChoice_99 0 (NW K (mg M' g)) ∧ TM M' (chP (M 1) (M 2) o t (M 0 9).toNat) ∧ FM M M')
    (fun i s => 0 ≤ i ∧ TM s (chP (M 1) (M 2) o t i.toNat) ∧ FM M s) (M 0 9) ?_ ?_ FU 0 M (by omega) ⟨by omega, h, FM.refl _⟩ (by have := FU_e; omega)
  · rintro n i M1 hi ⟨hI, hT, hF⟩
    have d1 : M1 1 = M 1 := funext fun z => hF.2 1 z (by omega) (by omega)
    have d2 : M1 2 = M 2 := funext fun z => hF.2 2 z (by omega) (by omega)
    have d9 : M1 0 9 = M 0 9 := hF.1 9 (by omega)
    have x12 : M1 12 i = o i := (hF.2 12 i (by omega) (by omega)).trans (h12 i hI hi)
    have x14 : M1 14 (o i) = t i := (hF.2 14 _ (by omega) (by omega)).trans (h14 i hI hi)
    have hb := chP_b (met := M 1) (len := M 2) (o := o) (t := t) (M 0 9) h9.2 (fun k a b => (hM.2.2.1 k a b).2) (fun q a b => by have := ho q a b; omega) (fun q a b => (ht q a b).2) i.toNat (by omega)
    have hoi := ho i hI hi
    have hti := ht i hI hi
    by_cases y : 0 < t i
    · have hb1 := tB_b (chP (M 1) (M 2) o t i.toNat)
      have hnd := nd_b (t i)
      have hm1 := hM.2.1 (o i) hoi.1 (by omega)
      have hm2 := hM.2.2.1 (o i) hoi.1 (by omega)
      obtain ⟨M2, e1, e2, e3⟩ := m_blank (K := K) (g := g) hT (by omega)
      have hF2 := hF.trans e3
      have z12 : M2 12 i = o i := (hF2.2 12 i (by omega) (by omega)).trans (h12 i hI hi)
      have z14 : M2 14 (o i) = t i := (hF2.2 14 _ (by omega) (by omega)).trans (h14 i hI hi)
      obtain ⟨M3, f1, f2, f3⟩ := m_num (K := K) (g := g) e2 (t i) (by omega) (by omega)
      obtain ⟨M4, g1, g2, g3⟩ := m_says (K := K) (g := g) f2 120 (by rw [tN_1]; omega)
      have hF4 := (hF2.trans f3).trans g3
      have w12 : M4 12 i = o i := (hF4.2 12 i (by omega) (by omega)).trans (h12 i hI hi)
      have b1 : M4 1 = M 1 := funext fun z => hF4.2 1 z (by omega) (by omega)
      have b2 : M4 2 = M 2 := funext fun z => hF4.2 2 z (by omega) (by omega)
      obtain ⟨M5, i1, i2, i3⟩ := m_kind (K := K) (g := g) g2 (by rw [tC_1, tN_1]; omega) (o i) (by omega) (by rw [b1]; exact hm1) (by rw [b2]; exact hm2)
      rw [b1, b2] at i2
      refine Or.inr ⟨M5, ⟨by omega, ?_, hF4.trans i3⟩, ?_⟩
      · rw [chP_s _ _ o t i hI, if_pos y]; exact i2
      · simp (disch := first | assumption | omega) only [fX7_writeChoice_36, fX7_writeChoice_93, nR1, nA1, nU1, nR2, nA2, nU2, nR3, nA3, nU3, nR4, nA4, nU4, nR5, nA5, nU5, nR6, nA6, nU6, nR7, nA7, nU7, nR8, nA8, nU8, nR9, nA9, nU9, nR10, nA10, nU10, nR11, nA11, nU11, nR12, nA12, nU12, nR13, nA13, nU13, nR14, nA14, nU14, nR15, nA15, nU15, nR16, nA16, nU16, nI0, nS0, nI1, nS1, nI2, nS2, nI3, nS3, nI4, nS4, nI5, nS5, nI6, nS6, nI7, nS7, nI8, nS8, nI9, nS9, nI15, nS15, nI18, nS18, nI19, nS19, nI20, nS20, nI21, nS21, nI22, nS22, nI23, nS23, nI24, nS24, nI25, nS25, nI26, nS26, nI27, nS27, nI32, nS32, nI36, nS36, nI37, nS37, nI40, nS40, nSZ1, nV, nC, ↓reduceIte, tr_lt, fa_lt, tr_le, fa_le, tr_eq, fa_eq, and_true, true_and, and_false, false_and, il0, il1, il2, il3, il4, il5, il6, il7, il8, il9, il10, il11, il12, il15, il16, il20, il24, il31, il32, il44, il45, il48, il50, il57, il58, il59, il63, il91, il93, il97, il99, il100, il109, il113, il119, il120, il122, il200, il255, il480, il500, il501, il512, il999, il4112, il41120, il1000000, il1000003, ii_add, ii_sub, ii_mul, ii_neg, ii_le, ii_lt, ii_eq, ii_div, q_I, q_V, q_R, lt_q, rZ_q, md_M, md_16, md_4, md_8, md_10, if_true, if_false, if_pos, if_neg, mg_3, mg_0, mg_1, mg_2, mg_k, mg_up3, mg_upk, mg_k, d9, x12, x14, e1, z12, z14, f1, g1, w12, i1]
    · refine Or.inr ⟨M1, ⟨by omega, ?_, hF⟩, ?_⟩
      · rw [chP_s _ _ o t i hI, if_neg y]; exact hT
      · simp (disch := first | assumption | omega) only [fX7_writeChoice_36, fX7_writeChoice_93, nR1, nA1, nU1, nR2, nA2, nU2, nR3, nA3, nU3, nR4, nA4, nU4, nR5, nA5, nU5, nR6, nA6, nU6, nR7, nA7, nU7, nR8, nA8, nU8, nR9, nA9, nU9, nR10, nA10, nU10, nR11, nA11, nU11, nR12, nA12, nU12, nR13, nA13, nU13, nR14, nA14, nU14, nR15, nA15, nU15, nR16, nA16, nU16, nI0, nS0, nI1, nS1, nI2, nS2, nI3, nS3, nI4, nS4, nI5, nS5, nI6, nS6, nI7, nS7, nI8, nS8, nI9, nS9, nI15, nS15, nI18, nS18, nI19, nS19, nI20, nS20, nI21, nS21, nI22, nS22, nI23, nS23, nI24, nS24, nI25, nS25, nI26, nS26, nI27, nS27, nI32, nS32, nI36, nS36, nI37, nS37, nI40, nS40, nSZ1, nV, nC, ↓reduceIte, tr_lt, fa_lt, tr_le, fa_le, tr_eq, fa_eq, and_true, true_and, and_false, false_and, il0, il1, il2, il3, il4, il5, il6, il7, il8, il9, il10, il11, il12, il15, il16, il20, il24, il31, il32, il44, il45, il48, il50, il57, il58, il59, il63, il91, il93, il97, il99, il100, il109, il113, il119, il120, il122, il200, il255, il480, il500, il501, il512, il999, il4112, il41120, il1000000, il1000003, ii_add, ii_sub, ii_mul, ii_neg, ii_le, ii_lt, ii_eq, ii_div, q_I, q_V, q_R, lt_q, rZ_q, md_M, md_16, md_4, md_8, md_10, if_true, if_false, if_pos, if_neg, mg_3, mg_0, mg_1, mg_2, mg_k, mg_up3, mg_upk, mg_k, d9, x12, x14]
  · rintro n M1 ⟨hI, hT, hF⟩
    have d9 : M1 0 9 = M 0 9 := hF.1 9 (by omega)
    refine ⟨M1, ?_, hT, hF⟩
    rw [fX7_writeChoice_36, nI9, mg_0, d9, if_pos (Int32.le_refl _)]
theorem m_chEnd (h : TM M p) (hp : 0 ≤ p.1 ∧ p.1 ≤ 2900) (op : Int) (h36 : M 0 36 = op) (hop : -1 ≤ op ∧ op ≤ 20) : ∃ M', fX7_writeChoice_99 0 (NW K (mg M g)) = some (Sum.inl (some (Value.int (ii ((if op = -1 then p else tQ op p).1)))), NW K (mg M' g)) ∧ TM M' (if op = -1 then p else tQ op p) ∧ FM M M' := by
  obtain ⟨M', e1, e2, e3⟩ := m_quoin (K := K) (g := g) h (by omega) op hop
  have h40 := e2.1
  refine ⟨M', ?_, e2, e3⟩
  rw [fX7_writeChoice_99, nI36, mg_0, h36, nV, e1, nC, q_V, nI40, mg_0, h40]
end TXB
section TXC
variable {C0 N0 n : Nat} {K : Nat × Nat} {c : CC} {A : AI} {J : JI} {M : AI} {g g' o : Int → Int} {pl sp tv cap : Nat} {f B : Int}
theorem g_writeStock (hI : Inv C0 N0 n pl sp tv cap c A J M g) : Good C0 N0 n K (fL_writeStock 0 455 (CW c A J)) (fX7_writeStock 0 (NW K (mg M g))) := by
  have hk := hI.1
  have hRd : isReader c 1 := hk.2.1.1
  have hSv : isSolver c 4 := hk.2.1.2.1
  have hHi : isHist c 21 := hk.2.1.2.2.1
  have hNow : isState c 303 := hk.2.1.2.2.2.1
  have hSpr : isState c 338 := hk.2.1.2.2.2.2.1
  have hPl : isPlan c pl := hk.2.2.2.1.2.1
  have h00 : up M 0 0 0 0 0 = 0 := up_s _ _ _ _
  by_cases hl : M 0 1 = 1
  · obtain ⟨h10, hM, hP, hS, hG⟩ := hI.ld hl
    obtain ⟨p0, p1, p2, p3, p4, p5, p6, p7⟩ := hP.1
    have hc1 := c_chase1 (A := A) (J := J) hk h10
    have e3 : up M 0 0 0 0 3 = M 0 3 := up_n _ _ _ _ _ _ (by omega)
    have e9 : up M 0 0 0 0 9 = M 0 9 := up_n _ _ _ _ _ _ (by omega)
    have h38 := hM.1.2.1
    have h910 := hM.1.2.2.2.2.2.2.2
    have hI0 := hI.thr 0
    have hl0 : up M 0 0 0 0 1 = 1 := (up_n _ _ _ _ _ _ (by omega)).trans hl
    have hap := hk.2.2.2.1.1
    obtain ⟨A1, s1, s2, s3⟩ := t_set0 (J := J) hI.ts
    have hL1 : TL c c cap cap A A1 J J := ⟨⟨Nat.le_refl _, Nat.le_refl _, Nat.le_refl _⟩, ⟨Nat.le_refl _, Nat.le_refl _, Nat.le_refl _⟩, fun b z q => s3 b z (by omega), fun _ _ _ => rfl⟩
    obtain ⟨c2, A2, J2, tv2, cap2, e1, e2, e3⟩ := c_stLoop (J := J) s2 (hL1.st hS hG.1.1) hG.1.1 (hL1.pr hap hP) hM hG.GL
    have hF0 : FM (up M 0 0 0) (up (up M 0 0 0) 0 40 0) := ⟨fun z q => up_n _ _ _ _ _ _ (fun e => q e.2), fun b z q _ => up_n _ _ _ _ _ _ (by omega)⟩
    have hT0 : TM (up (up M 0 0 0) 0 40 0) tP0 := ⟨up_s _ _ _ _, fun k a b => by have b' : k < 0 := b; omega⟩
    have d1 : up (up M 0 0 0) 0 40 0 1 = up M 0 0 0 1 := funext fun z => hF0.2 1 z (by omega) (by omega)
    have d2 : up (up M 0 0 0) 0 40 0 2 = up M 0 0 0 2 := funext fun z => hF0.2 2 z (by omega) (by omega)
    have d9 : up (up M 0 0 0) 0 40 0 0 9 = up M 0 0 0 0 9 := hF0.1 9 (by omega)
    obtain ⟨M2, i1, i2, i3⟩ := m_stLoop (K := K) hT0 (hM.at (fun z a b => hF0.1 z (by omega)) d1 d2) hG.GL
    rw [d1, d2, d9] at i1 i2
    have hb := stP_b (met := up M 0 0 0 1) (len := up M 0 0 0 2) (g := g) (up M 0 0 0 0 9) h910.2 (fun k a b => (hM.2.2.1 k a b).2) (up M 0 0 0 0 9).toNat (by omega)
    have hF2 := hF0.trans i3
    refine Good_txt hI (v := (stP (up M 0 0 0 1) (up M 0 0 0 2) g (up M 0 0 0 0 9).toNat).1) (c' := c2) (A' := A2) (J' := J2) (M' := M2) ?_ ?_ ((hF2.1 0 (by omega)).trans h00) (hL1.trans e3).1 (hI0.txt e2 (hL1.trans e3) i2 hF2 (by omega)).one
    · rw [fX6_writeStock, lkV hk, hc1, k_C, q_V, lkR7 hk, sbV hk, il0, s1, k_C, q_V, e1]
    · rw [fX7_writeStock, nV, e_notL1 hl, nC, q_I, if_pos i00, il0, nS40, mg_upk _ _ _ _ _ (by omega), i1]
  · obtain ⟨h10, h1⟩ := hI.nl hl
    refine Good_nl hI (v := 0) ?_ (hF_IS _ 1 rfl _ _) ?_
    · rw [fX6_writeStock, lkV hk, c_chase0 hk h10, k_E]
    · rw [fX7_writeStock, nV, e_notL0 h1, nC, q_I, if_neg (show ¬ ii 1 = (0 : Int32) by decide)]
      rfl
theorem g_writeChoice_1 (hI : Inv C0 N0 n pl sp tv cap c A J M g) (r : Int) (hl : M 0 1 = 1) (hr : 0 ≤ r ∧ r < up M 0 0 0 0 3) : Good C0 N0 n K (fL_writeChoice 0 (ii r) 455 (CW c A J)) (fX7_writeChoice 0 (ii r) (NW K (mg M g))) := by
  have hk := hI.1
  have hRd : isReader c 1 := hk.2.1.1
  have hSv : isSolver c 4 := hk.2.1.2.1
  have hHi : isHist c 21 := hk.2.1.2.2.1
  have hNow : isState c 303 := hk.2.1.2.2.2.1
  have hSpr : isState c 338 := hk.2.1.2.2.2.2.1
  have hPl : isPlan c pl := hk.2.2.2.1.2.1
  have h00 : up M 0 0 0 0 0 = 0 := up_s _ _ _ _
  obtain ⟨h10, hM, hP, hS, hG⟩ := hI.ld hl
  obtain ⟨p0, p1, p2, p3, p4, p5, p6, p7⟩ := hP.1
  have hc1 := c_chase1 (A := A) (J := J) hk h10
  have e3 : up M 0 0 0 0 3 = M 0 3 := up_n _ _ _ _ _ _ (by omega)
  have e9 : up M 0 0 0 0 9 = M 0 9 := up_n _ _ _ _ _ _ (by omega)
  have h38 := hM.1.2.1
  have h910 := hM.1.2.2.2.2.2.2.2
  have hcr := c_row1 (A := A) (J := J) hk h10 r (by rw [p1]; exact hr) (by rw [p1]; exact h38.2)
  have hmr := e_noRow1 (K := K) (M := M) (g := g) hl r (by rw [← e3]; exact hr) (by rw [← e3]; exact h38.2)
  have hr8 : 0 ≤ r ∧ r < 8 := by omega
  have hR := hNow.row r hr8
  have hrr := hS.2 r hr.1 (by omega)
  have hgr := hG.1.1 r hr.1 (by omega)
  have hI0 := hI.thr 0
  have hl0 : up M 0 0 0 0 1 = 1 := (up_n _ _ _ _ _ _ (by omega)).trans hl
  have hap := hk.2.2.2.1.1
  have htv := hk.2.2.2.2.1.2.2.2
  have h37 : up M 0 0 0 0 37 = -1 := (up_n _ _ _ _ _ _ (by omega)).trans hI.2.2.2.1
  have hO := hP.2.2
  obtain ⟨A1, s1, s2, s3⟩ := t_set0 (J := J) hI.ts
  have hL1 : TL c c cap cap A A1 J J := ⟨⟨Nat.le_refl _, Nat.le_refl _, Nat.le_refl _⟩, ⟨Nat.le_refl _, Nat.le_refl _, Nat.le_refl _⟩, fun b z q => s3 b z (by omega), fun _ _ _ => rfl⟩
  have hF0 : FM (up M 0 0 0) (up (up M 0 0 0) 0 40 0) := ⟨fun z q => up_n _ _ _ _ _ _ (fun e => q e.2), fun b z q _ => up_n _ _ _ _ _ _ (by omega)⟩
  have hT0 : TM (up (up M 0 0 0) 0 40 0) tP0 := ⟨up_s _ _ _ _, fun k a b => by have b' : k < 0 := b; omega⟩
  have d1 : up (up M 0 0 0) 0 40 0 1 = up M 0 0 0 1 := funext fun z => hF0.2 1 z (by omega) (by omega)
  have d2 : up (up M 0 0 0) 0 40 0 2 = up M 0 0 0 2 := funext fun z => hF0.2 2 z (by omega) (by omega)
  have d0 : ∀ z, 2 ≤ z → z ≤ 9 → up (up M 0 0 0) 0 40 0 0 z = up M 0 0 0 0 z := fun z a b => hF0.1 z (by omega)
  have d37 : up (up M 0 0 0) 0 40 0 0 37 = up M 0 0 0 0 37 := hF0.1 37 (by omega)
  have hMa : SA (up (up M 0 0 0) 0 40 0) := hM.at d0 d1 d2
  have hGa : GC (up (up M 0 0 0) 0 40 0) g (Bn n) := hG.at d0 d2
  have hra : 0 ≤ r ∧ r < up (up M 0 0 0) 0 40 0 0 3 := by rw [d0 3 (by omega) (by omega)]; exact hr
  have hIa := hI0.txt s2 hL1 hT0 hF0 (by show (0 : Int) ≤ 2900; omega)
  have hPa : PR A1 pl (up (up M 0 0 0) 0 40 0) := (hL1.pr hap hP).at d0 d1 d2
  have hOa := hPa.2.2
  obtain ⟨A3, A2, e1, v1, v2, k1, f1⟩ := c_solve (c := c) hk hNow ⟨by omega, Or.inl rfl⟩ (by rw [d2]; exact hL1.st hS hG.1.1) hPa hMa hGa (d37.trans h37) r hra
  obtain ⟨M', m1, ms, m36, m12, m14⟩ := e_chooses (K := K) hMa hGa.GL (by omega) hOa hr8 hgr hGa.h0 (hGa.need hMa hra).1
  have hIb : Inv C0 N0 n pl sp tv cap c A2 J M' g := hIa.scr (Nat.le_refl n) ⟨rfl, rfl, rfl⟩ hIa.2.1.2 ⟨fun b z hb => f1 b z (fun x => hb (Or.inl (Or.inl x))), fun _ _ _ => rfl⟩ ⟨fun z q _ => ms.1 z q, ms.2⟩
  have hTS2 : TS c A2 pl sp tv cap tP0 := by
    have n375 : ¬ inV 4 375 := by unfold inV; omega
    have ntv : ¬ inV 4 tv := by unfold inV; omega
    refine ⟨s2.1, ⟨by rw [f1 _ _ n375]; exact s2.2.1.1, by rw [f1 _ _ n375]; exact s2.2.1.2⟩, s2.2.2.1, fun k a b => ?_, fun k a b => by rw [f1 _ _ ntv]; exact s2.2.2.2.2 k a b⟩
    have b' : k < 0 := b
    omega
  have hTM2 : TM M' tP0 := ⟨(ms.1 40 (by omega)).trans (up_s _ _ _ _), fun k a b => by have b' : k < 0 := b; omega⟩
  have hb00 : M' 0 0 = 0 := (ms.1 0 (by omega)).trans ((hF0.1 0 (by omega)).trans h00)
  by_cases y : (chL (up (up M 0 0 0) 0 40 0) g (A1 (pl + 3)) r).1 < 1000000
  · rw [if_pos y] at e1 m1
    obtain ⟨⟨-, -, k7⟩, k20⟩ := k1.1 y
    obtain ⟨hc1', -⟩ := hGa.lockB (o := A1 (pl + 3)) hMa hOa hra y
    have hcb := (chL_b (o := A1 (pl + 3)) hMa (hGa.need hMa hra).1).2.1
    have h5 := hMa.1.2.2.2.1
    have h9a := hMa.1.2.2.2.2.2.2.2
    have q1 : M' 1 = up (up M 0 0 0) 0 40 0 1 := ms.c1
    have q2 : M' 2 = up (up M 0 0 0) 0 40 0 2 := ms.c2
    have q9 : M' 0 9 = up (up M 0 0 0) 0 40 0 0 9 := ms.1 9 (by omega)
    have hM' : SA M' := scr_SA ms hMa
    have hPb : PR A2 pl (up (up M 0 0 0) 0 40 0) := PR_frm hPa (fun b z hb => f1 b z (by unfold inV; omega))
    have hpo : ∀ q, A2 (pl + 3) q = A1 (pl + 3) q := fun q => f1 _ _ (by unfold inV; omega)
    have hb1 := chP_b (met := up (up M 0 0 0) 0 40 0 1) (len := up (up M 0 0 0) 0 40 0 2) (o := A1 (pl + 3)) (t := tk (up (up M 0 0 0) 0 40 0 0 9) (A1 (pl + 3)) (up (up M 0 0 0) 0 40 0 2) (stM (up (up M 0 0 0) 0 40 0) g) (chS (up (up M 0 0 0) 0 40 0) g (A1 (pl + 3)) r)) (up (up M 0 0 0) 0 40 0 0 9) h9a.2 (fun k a b => (hMa.2.2.1 k a b).2) (fun q a b => by have := hOa.1 q a b; omega) (fun q a b => (hc1' q a b).2) (up (up M 0 0 0) 0 40 0 0 9).toNat (by omega)
    obtain ⟨c4, A4, J4, tv4, cap4, i1, i2, i3⟩ := c_chLoop (J := J) (o := A1 (pl + 3)) (t := tk (up (up M 0 0 0) 0 40 0 0 9) (A1 (pl + 3)) (up (up M 0 0 0) 0 40 0 2) (stM (up (up M 0 0 0) 0 40 0) g) (chS (up (up M 0 0 0) 0 40 0) g (A1 (pl + 3)) r)) hTS2 hPb hMa (fun q _ _ => hpo q) hOa.1 k20 hc1'
    have x7 : A4 4 7 = (chL (up (up M 0 0 0) 0 40 0) g (A1 (pl + 3)) r).2 := (i3.2.2.1 4 7 (by omega)).trans k7
    obtain ⟨c5, A5, J5, tv5, cap5, j1, j2, j3⟩ := c_chEnd (J := J4) i2 (by omega) _ x7 (by omega)
    obtain ⟨N3, u1, u2, u3⟩ := m_chLoop (K := K) (g := g) (o := A1 (pl + 3)) (t := tk (up (up M 0 0 0) 0 40 0 0 9) (A1 (pl + 3)) (up (up M 0 0 0) 0 40 0 2) (stM (up (up M 0 0 0) 0 40 0) g) (chS (up (up M 0 0 0) 0 40 0) g (A1 (pl + 3)) r)) hTM2 hM' (fun q a b => m12 q a (by rw [← q9]; exact b)) (fun q a b => by rw [q9]; exact hOa.1 q a (by rw [← q9]; exact b)) (fun q a b => m14 y q a (by rw [← q9]; exact b)) (fun q a b => hc1' q a (by rw [← q9]; exact b))
    rw [q1, q2, q9] at u2
    have y36 : N3 0 36 = (chL (up (up M 0 0 0) 0 40 0) g (A1 (pl + 3)) r).2 := (u3.1 36 (by omega)).trans m36
    obtain ⟨N4, w1, w2, w3⟩ := m_chEnd (K := K) (g := g) u2 (by omega) _ y36 (by omega)
    have hb2 : (if (chL (up (up M 0 0 0) 0 40 0) g (A1 (pl + 3)) r).2 = -1 then chP (up (up M 0 0 0) 0 40 0 1) (up (up M 0 0 0) 0 40 0 2) (A1 (pl + 3)) (tk (up (up M 0 0 0) 0 40 0 0 9) (A1 (pl + 3)) (up (up M 0 0 0) 0 40 0 2) (stM (up (up M 0 0 0) 0 40 0) g) (chS (up (up M 0 0 0) 0 40 0) g (A1 (pl + 3)) r)) (up (up M 0 0 0) 0 40 0 0 9).toNat else tQ (chL (up (up M 0 0 0) 0 40 0) g (A1 (pl + 3)) r).2 (chP (up (up M 0 0 0) 0 40 0 1) (up (up M 0 0 0) 0 40 0 2) (A1 (pl + 3)) (tk (up (up M 0 0 0) 0 40 0 0 9) (A1 (pl + 3)) (up (up M 0 0 0) 0 40 0 2) (stM (up (up M 0 0 0) 0 40 0) g) (chS (up (up M 0 0 0) 0 40 0) g (A1 (pl + 3)) r)) (up (up M 0 0 0) 0 40 0 0 9).toNat)).1 ≤ 2900 := by
      have := tQ_b (chL (up (up M 0 0 0) 0 40 0) g (A1 (pl + 3)) r).2 (chP (up (up M 0 0 0) 0 40 0 1) (up (up M 0 0 0) 0 40 0 2) (A1 (pl + 3)) (tk (up (up M 0 0 0) 0 40 0 0 9) (A1 (pl + 3)) (up (up M 0 0 0) 0 40 0 2) (stM (up (up M 0 0 0) 0 40 0) g) (chS (up (up M 0 0 0) 0 40 0) g (A1 (pl + 3)) r)) (up (up M 0 0 0) 0 40 0 0 9).toNat) (by omega)
      split <;> omega
    have key : ∀ v : Int, fX6_writeChoice_125 0 (CW c4 A4 J4) = some (Sum.inl (some (Value.int (ii (v)))), CW c5 A5 J5) → fX7_writeChoice_99 0 (NW K (mg N3 g)) = some (Sum.inl (some (Value.int (ii (v)))), NW K (mg N4 g)) → Good C0 N0 n K (fL_writeChoice 0 (ii r) 455 (CW c A J)) (fX7_writeChoice 0 (ii r) (NW K (mg M g))) := by
      intro v z1 z2
      refine Good_txt hI (v := v) (c' := c5) (A' := A5) (J' := J5) (M' := N4) ?_ ?_ ((w3.1 0 (by omega)).trans ((u3.1 0 (by omega)).trans hb00)) (i3.trans j3).1 (hIb.txt j2 (i3.trans j3) w2 (u3.trans w3) hb2).one
      · rw [fX6_writeChoice, lkV hk, hcr, k_C, q_R, lkR7 hk, sbV hk, il0, s1, k_C, q_V, lkR3 hk, lkV hk, e1, k_C, q_I, if_neg (by decide), i1, z1]
      · rw [fX7_writeChoice, nV, hmr, nC, q_I, if_pos i00, il0, nS40, mg_upk _ _ _ _ _ (by omega), nV, m1, nC, q_I, if_neg (by decide), u1, z2]
    exact key _ j1 w1
  · rw [if_neg y] at e1 m1
    obtain ⟨c5, A5, J5, tv5, cap5, j1, j2, j3⟩ := t_app (J := J) hTS2 45 (by omega) (by show (0 : Int) ≤ 2950; omega)
    have hlen := t_len (J := J5) j2.1 _ j2.2.1.1
    obtain ⟨N4, w1, w2, w3⟩ := m_says (K := K) (g := g) hTM2 45 (by show 0 ≤ (0 : Int) ∧ (0 : Int) < 3000; omega)
    have h40 := w2.1
    refine Good_txt hI (c' := c5) (A' := A5) (J' := J5) (M' := N4) (v := (tC 45 tP0).1) ?_ ?_ ((w3.1 0 (by omega)).trans hb00) j3.1 (hIb.txt j2 j3 w2 w3 (by show (0 : Int) + 1 ≤ 2900; omega)).one
    · rw [fX6_writeChoice, lkV hk, hcr, k_C, q_R, lkR7 hk, sbV hk, il0, s1, k_C, q_V, lkR3 hk, lkV hk, e1, k_C, q_I, if_pos rfl, lkR7 hk, sbV hk, il45, j1, k_Cl j3.1, q_R, lkR7 j2.1, sbV j2.1, hlen, k_C, q_I]
    · rw [fX7_writeChoice, nV, hmr, nC, q_I, if_pos i00, il0, nS40, mg_upk _ _ _ _ _ (by omega), nV, m1, nC, q_I, if_pos rfl, nV, il45, w1, nC, q_V, nI40, mg_0, h40]
theorem g_writeChoice (hI : Inv C0 N0 n pl sp tv cap c A J M g) (r : Int) (hrb : -2147483648 ≤ r ∧ r < 2147483648) : Good C0 N0 n K (fL_writeChoice 0 (ii r) 455 (CW c A J)) (fX7_writeChoice 0 (ii r) (NW K (mg M g))) := by
  have hk := hI.1
  have hRd : isReader c 1 := hk.2.1.1
  have hSv : isSolver c 4 := hk.2.1.2.1
  have hHi : isHist c 21 := hk.2.1.2.2.1
  have hNow : isState c 303 := hk.2.1.2.2.2.1
  have hSpr : isState c 338 := hk.2.1.2.2.2.2.1
  have hPl : isPlan c pl := hk.2.2.2.1.2.1
  have h00 : up M 0 0 0 0 0 = 0 := up_s _ _ _ _
  by_cases hl : M 0 1 = 1
  · obtain ⟨h10, hM, hP, hS, hG⟩ := hI.ld hl
    obtain ⟨p0, p1, p2, p3, p4, p5, p6, p7⟩ := hP.1
    have hc1 := c_chase1 (A := A) (J := J) hk h10
    have e3 : up M 0 0 0 0 3 = M 0 3 := up_n _ _ _ _ _ _ (by omega)
    have e9 : up M 0 0 0 0 9 = M 0 9 := up_n _ _ _ _ _ _ (by omega)
    have h38 := hM.1.2.1
    have h910 := hM.1.2.2.2.2.2.2.2
    by_cases hr : 0 ≤ r ∧ r < up M 0 0 0 0 3
    · exact g_writeChoice_1 hI r hl hr
    · refine Good_no (code := 2) hI (E := "java/lang/IndexOutOfBoundsException") (A' := A) (J' := J) ?_ (frm.refl _ _ _) (fun τ => (hF2 _ _ _ _ _ _ (by decide)).trans (hF1 _ _ 2 rfl _ _ _)) (by omega) (v := 0) ?_
      · have hcr := c_row0 (A := A) (J := J) hk h10 r (by rw [p1]; exact hr) (by rw [p1]; omega) (by omega)
        rw [fX6_writeChoice, lkV hk, hcr, k_E]
      · have hmr := e_noRow0 (K := K) (M := M) (g := g) hl r (by rw [← e3]; exact hr) (by rw [← e3]; omega) (by omega)
        rw [fX7_writeChoice, nV, hmr, nC, q_I, if_neg (show ¬ ii 1 = (0 : Int32) by decide)]
        rfl
  · obtain ⟨h10, h1⟩ := hI.nl hl
    refine Good_nl hI (v := 0) ?_ (hF_IS _ 1 rfl _ _) ?_
    · rw [fX6_writeChoice, lkV hk, c_rowN hk h10, k_E]
    · rw [fX7_writeChoice, nV, e_noRowN h1, nC, q_I, if_neg (show ¬ ii 1 = (0 : Int32) by decide)]
      rfl
end TXC
