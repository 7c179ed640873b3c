/-! TEXTS, III: the pieces of a text -/
abbrev tP0 : TP := (0, fun _ => 0)
theorem tB_b (p : TP) : p.1 ≤ (tB p).1 ∧ (tB p).1 ≤ p.1 + 1 := by
  unfold tB
  split
  · show p.1 ≤ p.1 + 1 ∧ p.1 + 1 ≤ p.1 + 1; omega
  · omega
theorem tC_1 (ch : Int) (p : TP) : (tC ch p).1 = p.1 + 1 := rfl
theorem tN_1 (v : Int) (p : TP) : (tN v p).1 = p.1 + nd v := rfl
section TX4
variable {c c' c2 : CC} {A A' A2 : AI} {J J' J2 : JI} {pl sp tv cap tv' cap' tv2 cap2 : Nat} {p : TP}
theorem t_len (hk : isLock c pl sp tv cap) (L : Int) (h : A 375 3 = L) : fJ4_length_8abf5 375 (CW c A J) = some (Sum.inl (some (Value.int (ii (L)))), CW c A J) := by
  rw [fJ4_length_8abf5, sbV hk, fJ5_length_8abf5, sbI3 hk, h, k_C, q_I]
theorem c_gapB (h : TS c A pl sp tv cap p) (hp : p.1 ≤ 2940) : ∃ (c' : CC) (A' : AI) (J' : JI) (tv' cap' : Nat), fX6_writeGapBefore 0 (CW c A J) = some (Sum.inl none, CW c' A' J') ∧ TS c' A' pl sp tv' cap' (tB p) ∧ TL c c' cap cap' A A' J J' := by
  have hk := h.1
  have hl := t_len (J := J) hk p.1 h.2.1.1
  have b0 := h.2.2.1.1
  unfold tB
  by_cases y : 0 < p.1
  · rw [if_pos y]
    obtain ⟨c', A', J', tv', cap', e1, e2, e3⟩ := t_app (J := J) h 32 (by omega) (by omega)
    refine ⟨c', A', J', tv', cap', ?_, e2, e3⟩
    rw [fX6_writeGapBefore, lkR7 hk, sbV hk, hl, k_C, q_I, il0, if_neg (by rw [ii_le _ _ (by omega)]; omega), lkR7 hk, sbV hk, il32, e1, k_Cl e3.1, q_R]
  · rw [if_neg y]
    refine ⟨c, A, J, tv, cap, ?_, h, TL.refl _ _ _ _⟩
    rw [fX6_writeGapBefore, lkR7 hk, sbV hk, hl, k_C, q_I, il0, if_pos (by rw [ii_le _ _ (by omega)]; omega)]
theorem c_wKind (h : TS c A pl sp tv cap p) (hp : p.1 ≤ 2940) (k n : Int) (met len : Int → Int) (hkk : 0 ≤ k ∧ k < n) (hn : n ≤ 10) (h7 : A pl 7 = n) (h1 : A (pl + 1) k = met k ∧ 0 ≤ met k ∧ met k ≤ 1) (h2 : A (pl + 2) k = len k ∧ 0 ≤ len k ∧ len k ≤ 99) :
    ∃ (c' : CC) (A' : AI) (J' : JI) (tv' cap' : Nat), fX6_writeKind 0 (ii k) (CW c A J) = some (Sum.inl none, CW c' A' J') ∧ TS c' A' pl sp tv' cap' (tK met len k p) ∧ TL c c' cap cap' A A' J J' := by
  have hk := h.1
  have hap := hk.2.2.2.1.1
  have hPl : isPlan c pl := hk.2.2.2.1.2.1
  have main : ∀ ch : Int, 0 ≤ ch ∧ ch ≤ 127 → ∃ (c' : CC) (A' : AI) (J' : JI) (tv' cap' : Nat), fX6_writeKind_38 0 (ii k) 375 (ii ch) (CW c A J) = some (Sum.inl none, CW c' A' J') ∧ TS c' A' pl sp tv' cap' (tN (len k) (tC ch p)) ∧ TL c c' cap cap' A A' J J' := by
    intro ch hch
    obtain ⟨c1, A1, J1, tv1, cap1, e1, e2, e3⟩ := t_app (J := J) h ch hch (by omega)
    have hk1 := e2.1
    have hPl1 : isPlan c1 pl := hk1.2.2.2.1.2.1
    have x2 : A1 (pl + 2) k = len k := (e3.2.2.1 _ _ (by omega)).trans h2.1
    obtain ⟨c2, A2, J2, tv2, cap2, f1, f2, f3⟩ := t_num (J := J1) e2 (len k) (by omega) (by rw [tC_1]; omega)
    refine ⟨c2, A2, J2, tv2, cap2, ?_, f2, e3.trans f3⟩
    rw [fX6_writeKind_38, sbV hk, e1, k_Cl e3.1, q_R, lkR7 hk1, lkR8 hk1, plR9 hPl1, plA2 hPl1 _ _ (by omega), x2, sbV hk1, f1, k_Cl f3.1, q_R]
  unfold tK
  by_cases y : met k = 0
  · rw [if_pos y]
    obtain ⟨c', A', J', tv', cap', e1, e2, e3⟩ := main 119 (by omega)
    refine ⟨c', A', J', tv', cap', ?_, e2, e3⟩
    rw [fX6_writeKind, il0, if_neg (by rw [ii_lt _ _ (by omega)]; omega), lkR8 hk, plI7 hPl, h7, if_neg (by rw [ii_le _ _ (by omega)]; omega), lkR7 hk, lkR8 hk, plR8 hPl, plA1 hPl _ _ (by omega), h1.1, y, if_pos rfl, il119]
    exact e1
  · rw [if_neg y]
    obtain ⟨c', A', J', tv', cap', e1, e2, e3⟩ := main 109 (by omega)
    refine ⟨c', A', J', tv', cap', ?_, e2, e3⟩
    rw [fX6_writeKind, il0, if_neg (by rw [ii_lt _ _ (by omega)]; omega), lkR8 hk, plI7 hPl, h7, if_neg (by rw [ii_le _ _ (by omega)]; omega), lkR7 hk, lkR8 hk, plR8 hPl, plA1 hPl _ _ (by omega), h1.1, if_neg (by rw [ii_eq _ _ (by omega)]; exact y), il109]
    exact e1
theorem c_wOpen (h : TS c A pl sp tv cap p) (hp : p.1 ≤ 2930) (o : Int) (ho : 0 ≤ o ∧ o ≤ 20) :
    ∃ (c' : CC) (A' : AI) (J' : JI) (tv' cap' : Nat), fX6_writeOpening 0 (ii o) (CW c A J) = some (Sum.inl none, CW c' A' J') ∧ TS c' A' pl sp tv' cap' (tQ o p) ∧ TL c c' cap cap' A A' J J' := by
  have hk := h.1
  have hb := tB_b p
  obtain ⟨c1, A1, J1, tv1, cap1, e1, e2, e3⟩ := c_gapB (J := J) h (by omega)
  obtain ⟨c2, A2, J2, tv2, cap2, f1, f2, f3⟩ := t_app (J := J1) e2 113 (by omega) (by omega)
  obtain ⟨c3, A3, J3, tv3, cap3, g1, g2, g3⟩ := t_num (J := J2) f2 o (by omega) (by rw [tC_1]; omega)
  refine ⟨c3, A3, J3, tv3, cap3, ?_, g2, (e3.trans f3).trans g3⟩
  rw [fX6_writeOpening, lkV hk, e1, k_Cl e3.1, q_V, lkR7 e2.1, sbV e2.1, il113, f1, k_Cl f3.1, q_R, lkR7 f2.1, sbV f2.1, g1, k_Cl g3.1, q_R]
theorem sbZ2 (hk : isLock c pl sp tv cap) (k : AS → Option AR) : sZ (CW c A J) 375 1 2 (ii 1) k = k (CW c (up A 375 2 1) J) := by
  have h := hk.2.2.2.2.1.1
  refine (if_pos ⟨⟨h.1, by rw [show ax_H (CW c A J) 375 = c.2.1 375 from rfl, h.2]⟩, Or.inr rfl⟩).trans ?_
  exact congrArg k (cUp 375 2 1 (by omega))
theorem t_set0 (h : TS c A pl sp tv cap p) : ∃ A', fJ4_setLength_d00df 375 (ii 0) (CW c A J) = some (Sum.inl none, CW c A' J) ∧ TS c A' pl sp tv cap tP0 ∧ ∀ (b : Nat) (z : Int), b ≠ 375 → A' b z = A b z := by
  obtain ⟨hk, ⟨a3, a1⟩, ⟨l0, l1, l2, l3, l4⟩, ht, hb⟩ := h
  have htv := hk.2.2.2.2.1.2.2.2
  have hens : fJ5_ensureCapacityInternal_d00df 375 (ii 0) (CW c A J) = some (Sum.inl none, CW c A J) := by
    simp (disch := first | assumption | omega) only [fJ5_ensureCapacityInternal_d00df, sbR0 hk, sbL hk, sbI1 hk, a1, shr0, ↓reduceIte, tr_lt, fa_lt, tr_le, fa_le, tr_eq, fa_eq, and_true, true_and, and_false, false_and, il0, il1, il2, il3, il4, il5, il6, il7, il8, il9, il10, il11, il12, il15, il16, il20, il24, il31, il32, il44, il45, il48, il50, il57, il58, il59, il63, il91, il93, il97, il99, il100, il109, il113, il119, il120, il122, il200, il255, il480, il500, il501, il512, il999, il4112, il41120, il1000000, il1000003, ii_add, ii_sub, ii_mul, ii_neg, ii_le, ii_lt, ii_eq, ii_div, q_I, q_V, q_R, lt_q, rZ_q, md_M, md_16, md_4, md_8, md_10, if_true, if_false, if_pos, if_neg]
  by_cases y : p.1 = 0
  · rw [y] at a3
    refine ⟨up A 375 3 0, ?_, ⟨hk, ⟨up_s _ _ _ _, by rw [up_n _ _ _ _ _ _ (by omega)]; exact a1⟩, ⟨by show (0 : Int) ≤ 0; omega, by show (0 : Int) ≤ _; omega, l2, l3, l4⟩, fun k a b => ?_, BY.u2 hb _ _ _ (by omega)⟩, fun b z q => up_n _ _ _ _ _ _ (fun e => q e.1)⟩
    · have h5 : fJ5_setLength_d00df 375 (ii 0) (CW c A J) = some (Sum.inl none, CW c (up A 375 3 0) J) := by
        rw [fJ5_setLength_d00df, if_pos (by decide), sbV hk, hens, k_C, q_V, sbI3 hk, a3, if_pos (by decide), sbI3 hk, a3, if_pos (by decide), fJ5_setLength_d00df_76, sbS3 hk]
      rw [fJ4_setLength_d00df, sbV hk, h5, k_C, q_V]
    · have b' : k < 0 := b
      omega
  · refine ⟨up (up A 375 2 1) 375 3 0, ?_, ⟨hk, ⟨up_s _ _ _ _, by rw [up_n _ _ _ _ _ _ (by omega), up_n _ _ _ _ _ _ (by omega)]; exact a1⟩, ⟨by show (0 : Int) ≤ 0; omega, by show (0 : Int) ≤ _; omega, l2, l3, l4⟩, fun k a b => ?_, BY.u2 (BY.u2 hb _ _ _ (by omega)) _ _ _ (by omega)⟩, fun b z q => ?_⟩
    · have h5 : fJ5_setLength_d00df 375 (ii 0) (CW c A J) = some (Sum.inl none, CW c (up (up A 375 2 1) 375 3 0) J) := by
        rw [fJ5_setLength_d00df, if_pos (by decide), sbV hk, hens, k_C, q_V, sbI3 hk, a3, if_pos (by rw [ii_le _ _ (by omega)]; omega), sbI3 hk, a3, if_neg (by rw [ii_le _ _ (by omega)]; omega), il1, sbZ2 hk, fJ5_setLength_d00df_76, sbS3 hk]
      rw [fJ4_setLength_d00df, sbV hk, h5, k_C, q_V]
    · have b' : k < 0 := b
      omega
    · rw [up_n _ _ _ _ _ _ (fun e => q e.1), up_n _ _ _ _ _ _ (fun e => q e.1)]
end TX4
section TX5
variable {K : Nat × Nat} {M M' : AI} {g : Int → Int} {p : TP}
theorem m_blank (h : TM M p) (hp : 0 ≤ p.1 ∧ p.1 < 2990) : ∃ M', fX7_saysBlank 0 (NW K (mg M g)) = some (Sum.inl none, NW K (mg M' g)) ∧ TM M' (tB p) ∧ FM M M' := by
  have h40 := h.1
  unfold tB
  by_cases y : 0 < p.1
  · rw [if_pos y]
    obtain ⟨M', e1, e2, e3⟩ := m_says (K := K) (g := g) h 32 (by omega)
    refine ⟨M', ?_, e2, e3⟩
    rw [fX7_saysBlank, nI40, mg_0, h40, il0, if_neg (by rw [ii_le _ _ (by omega)]; omega), nV, il32, e1, nC, q_V]
  · rw [if_neg y]
    refine ⟨M, ?_, h, FM.refl _⟩
    rw [fX7_saysBlank, nI40, mg_0, h40, il0, if_pos (by rw [ii_le _ _ (by omega)]; omega)]
theorem m_kind (h : TM M p) (hp : 0 ≤ p.1 ∧ p.1 < 2980) (k : Int) (hk : 0 ≤ k ∧ k < 10) (h1 : 0 ≤ M 1 k ∧ M 1 k ≤ 1) (h2 : 0 ≤ M 2 k ∧ M 2 k ≤ 99) : ∃ M', fX7_saysKind 0 (ii k) (NW K (mg M g)) = some (Sum.inl none, NW K (mg M' g)) ∧ TM M' (tK (M 1) (M 2) k p) ∧ FM M M' := by
  have main : ∀ ch : Int, ∃ M', fX7_saysKind_17 0 (ii k) 0 (ii ch) (NW K (mg M g)) = some (Sum.inl none, NW K (mg M' g)) ∧ TM M' (tN (M 2 k) (tC ch p)) ∧ FM M M' := by
    intro ch
    obtain ⟨M1, e1, e2, e3⟩ := m_says (K := K) (g := g) h ch (by omega)
    have x2 : M1 2 k = M 2 k := e3.2 2 k (by omega) (by omega)
    obtain ⟨M2, f1, f2, f3⟩ := m_num (K := K) (g := g) e2 (M 2 k) (by omega) (by rw [tC_1]; omega)
    refine ⟨M2, ?_, f2, e3.trans f3⟩
    rw [fX7_saysKind_17, nV, e1, nC, q_V, nR2, nA2 _ _ _ (by omega), mg_2, x2, nV, f1, nC, q_V]
  unfold tK
  by_cases y : M 1 k = 0
  · rw [if_pos y]
    obtain ⟨M', e1, e2, e3⟩ := main 119
    refine ⟨M', ?_, e2, e3⟩
    rw [fX7_saysKind, nR1, nA1 _ _ _ (by omega), mg_1, y, if_pos i00, il119]
    exact e1
  · rw [if_neg y]
    obtain ⟨M', e1, e2, e3⟩ := main 109
    refine ⟨M', ?_, e2, e3⟩
    rw [fX7_saysKind, nR1, nA1 _ _ _ (by omega), mg_1, if_neg (by rw [il0, ii_eq _ _ (by omega)]; exact y), il109]
    exact e1
theorem m_quoin (h : TM M p) (hp : 0 ≤ p.1 ∧ p.1 < 2970) (o : Int) (ho : -1 ≤ o ∧ o ≤ 20) : ∃ M', fX7_saysQuoin 0 (ii o) (NW K (mg M g)) = some (Sum.inl none, NW K (mg M' g)) ∧ TM M' (if o = -1 then p else tQ o p) ∧ FM M M' := by
  by_cases y : o = -1
  · rw [if_pos y, y]
    refine ⟨M, ?_, h, FM.refl _⟩
    rw [fX7_saysQuoin, if_pos (by decide)]
  · rw [if_neg y]
    have hb := tB_b p
    obtain ⟨M1, e1, e2, e3⟩ := m_blank (K := K) (g := g) h (by omega)
    obtain ⟨M2, f1, f2, f3⟩ := m_says (K := K) (g := g) e2 113 (by omega)
    obtain ⟨M3, g1, g2, g3⟩ := m_num (K := K) (g := g) f2 o (by omega) (by rw [tC_1]; omega)
    refine ⟨M3, ?_, g2, (e3.trans f3).trans g3⟩
    rw [fX7_saysQuoin, show (-1 : Int32) = ii (-1) from rfl, if_neg (by rw [ii_eq _ _ (by omega)]; exact y), nV, e1, nC, q_V, nV, il113, f1, nC, q_V, nV, g1, nC, q_V]
end TX5
/-! the text is other -/
section TX6
variable {C0 N0 n : Nat} {K : Nat × Nat} {c c' : CC} {A A' : AI} {J J' : JI} {M M' : AI} {g g' o : Int → Int} {pl sp tv cap tv' cap' : Nat} {f B : Int} {q : TP}
theorem Inv.ts (h : Inv C0 N0 n pl sp tv cap c A J M g) : TS c A pl sp tv cap (M 0 40, M 16) := by
  obtain ⟨⟨t1, t2, t2', t3⟩, ⟨t4, t5, t6⟩, t7⟩ := h.2.2.2.2.2.1
  refine ⟨h.1, ⟨t1, t3⟩, ⟨t2, t4, t5, t6, h.2.1.1⟩, fun k a b => ?_, fun k a b => ?_⟩
  · have b' : k < M 0 40 := b
    have h1 := t7 k.toNat (by omega) (by omega)
    rw [show ((k.toNat : Nat) : Int) = k by omega] at h1
    exact h1.1 b'
  · have h1 := t7 k.toNat (by omega) (by omega)
    rw [show ((k.toNat : Nat) : Int) = k by omega] at h1
    exact h1.2
theorem Inv.txt (h : Inv C0 N0 n pl sp tv cap c A J M g) (hT : TS c' A' pl sp tv' cap' q) (hL : TL c c' cap cap' A A' J J') (hM : TM M' q) (hF : FM M M') (hq : q.1 ≤ 2900) : Inv C0 N0 n pl sp tv' cap' c' A' J' M' g := by
  obtain ⟨h1, ⟨z1, z2, z3⟩, h3, h4, ⟨r1, r2, r3, r4⟩, -, h7, h8, ⟨p1, p2, p3⟩, ⟨k1, k2, k3⟩⟩ := h
  obtain ⟨m2, m3⟩ := hF
  obtain ⟨l1, l2, l3, l4, -⟩ := hL
  have hap := h1.2.2.2.1.1
  have e1 : M' 1 = M 1 := funext fun z => m3 1 z (by omega) (by omega)
  have e2 : M' 2 = M 2 := funext fun z => m3 2 z (by omega) (by omega)
  have e5 : ∀ i, pastg M' i = pastg M i := fun i => funext fun z => m3 5 _ (by omega) (by omega)
  have e0 : ∀ z, 2 ≤ z → z ≤ 9 → M' 0 z = M 0 z := fun z a b => m2 z (by omega)
  have fA : ∀ (b : Nat) (z : Int), (b < 375 ∨ 377 ≤ b ∧ b < 455) → A' b z = A b z := l3
  have fS : ∀ S : Nat, (S + 35 ≤ 375 ∨ 377 ≤ S ∧ S + 35 ≤ 455) → ∀ {g : Int → Int} {f : Int}, GR g → SR A J S (M 2) g f → SR A' J' S (M' 2) g f := fun S hS g f hg hs => by
    rw [e2]
    exact SR_frame hs hg (fun b z hb => fA b z (by unfold inS at hb; omega)) (fun b z hb => l4 b z (by unfold inS at hb; omega))
  have fG : ∀ {g : Int → Int} {B : Int}, GC M g B → GC M' g B := fun hg => hg.at e0 e2
  have hs21 : ∀ i : Int, hs 21 (i % 8) + 35 ≤ 375 := fun i => by unfold hs; omega
  refine ⟨hT.1, ⟨by omega, by omega, by omega⟩, ?_, ?_, ⟨?_, fun k a b => ?_, ?_, ?_⟩, ⟨⟨?_, ?_, ?_, hT.2.1.2⟩, ⟨?_, hT.2.2.1.2.2.1, hT.2.2.1.2.2.2.1⟩, fun k a b => ⟨fun w => ?_, hT.2.2.2.2 k (by omega) (by omega)⟩⟩, fun hl => ?_, fun hl => ?_, ⟨?_, ?_, fun i a b => ?_⟩, ⟨fun j a b => ?_, fun hl => ?_, fun hl => ?_⟩⟩
  · rw [fA 0 10 (by omega), m2 1 (by omega)]; exact h3
  · rw [m2 37 (by omega)]; exact h4
  · rw [fA 1 2 (by omega), m2 18 (by omega)]; exact r1
  · rw [m2 18 (by omega)] at b
    rw [fA 2 k (by omega), m3 7 k (by omega) (by omega)]; exact r2 k a b
  · rw [fA 1 3 (by omega), m2 19 (by omega)]; exact r3
  · rw [fA 1 4 (by omega), m2 20 (by omega)]; exact r4
  · rw [hM.1]; exact hT.2.1.1
  · rw [hM.1]; exact hT.2.2.1.1
  · rw [hM.1]; exact hq
  · rw [hM.1]; exact hT.2.2.1.2.1
  · rw [hM.1] at w
    rw [hM.2 k (by omega) w]; exact hT.2.2.2.1 k (by omega) w
  · rw [m2 1 (by omega)] at hl
    obtain ⟨l1, l2, l3, l4⟩ := h7 hl
    exact ⟨l1.at e0 e1 e2, (PR_frm l2 (fun b z hb => fA b z (by omega))).at e0 e1 e2, fS 303 (by omega) l4.1.1 l3, fG l4⟩
  · rw [m2 1 (by omega)] at hl
    rw [m2 15 (by omega), m3 6 0 (by omega) (by omega), m3 6 1 (by omega) (by omega), e1, e2]; exact h8 hl
  · rw [fA 21 2 (by omega), m2 15 (by omega)]; exact p1
  · rw [fA 21 1 (by omega)]; exact p2
  · rw [m2 15 (by omega)] at b
    obtain ⟨q1, q2⟩ := p3 i a b
    rw [fA 21 1 (by omega), m2 15 (by omega), e5]
    exact ⟨fS _ (Or.inl (hs21 _)) q2.1.1 q1, fG q2⟩
  · rw [fA 374 j (by omega), m3 6 j (by omega) (by omega)]; exact k1 j a b
  · rw [m3 6 0 (by omega) (by omega)] at hl
    rw [e5]
    exact ⟨fS 385 (by omega) (k2 hl).2.1.1 (k2 hl).1, fG (k2 hl).2⟩
  · rw [m3 6 1 (by omega) (by omega)] at hl
    rw [e5]
    exact ⟨fS 420 (by omega) (k3 hl).2.1.1 (k3 hl).1, fG (k3 hl).2⟩
end TX6
