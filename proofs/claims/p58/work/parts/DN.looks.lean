/-! THE LAW: looks -/
theorem cm_d (x : UInt64) (h : FP.dIsNaN x = false) : Op.cmpValue (FP.dcmp x x) .l = 0 := by
  have h1 : FP.Core.val64 x ≠ .nan := by
    intro e
    have : FP.Core.dIsNaN x = false := h
    unfold FP.Core.dIsNaN FP.Core.isNaN at this
    have e2 : decide (FP.Core.decode FP.Core.b64 x.toNat = .nan) = true := decide_eq_true e
    rw [this] at e2
    exact Bool.noConfusion e2
  have h2 : FP.dcmp x x = some .eq := FP.Core.dcmp_self h1
  rw [h2]
  rfl
theorem cm_f (x : UInt32) (h : FP.fIsNaN x = false) : Op.cmpValue (FP.fcmp x x) .l = 0 := by
  have h1 : FP.Core.val32 x ≠ .nan := by
    intro e
    have : FP.Core.fIsNaN x = false := h
    unfold FP.Core.fIsNaN FP.Core.isNaN at this
    have e2 : decide (FP.Core.decode FP.Core.b32 x.toNat = .nan) = true := decide_eq_true e
    rw [this] at e2
    exact Bool.noConfusion e2
  have h2 : FP.fcmp x x = some .eq := FP.Core.fcmp_self h1
  rw [h2]
  rfl
/-- the last of the kinds, in the order of choosing, that are left -/
def isFsB (P : Int → Prop) (o : Int → Int) (n k v : Int) : Prop := (v = -1 ∧ ∀ p, n - k ≤ p → p < n → ¬ P (o p)) ∨ ∃ p, (n - k ≤ p ∧ p < n) ∧ v = o p ∧ P (o p) ∧ ∀ q, n - k ≤ q → q < p → ¬ P (o q)
theorem isFst_u {P : Int → Prop} {o : Int → Int} {n v u : Int} (h : isFst P o n v) (k : isFsB P o n n u) : v = u := by
  rcases h with ⟨a, b⟩ | ⟨p, a, b, d, e⟩
  · rcases k with ⟨a2, b2⟩ | ⟨p2, a2, b2, d2, e2⟩
    · omega
    · exact absurd d2 (b p2 (by omega) a2.2)
  · rcases k with ⟨a2, b2⟩ | ⟨p2, a2, b2, d2, e2⟩
    · exact absurd d (b2 p (by omega) a.2)
    · rcases Int.lt_trichotomy p p2 with y | y | y
      · exact absurd d (e2 p (by omega) y)
      · rw [b, b2, y]
      · exact absurd d2 (e p2 (by omega) y)
section LOK
variable {C0 N0 n : Nat} {c c0 c' c2 : CC} {A A0 A' A2 : AI} {J J0 J' J2 : JI} {M : AI} {g o : Int → Int} {pl sp tv cap tv' cap' B tvb capb k m w d : Nat} {p p' : TP} {q r : Int}
theorem LwD.loose (h : LwD C0 N0 n pl sp tv cap c A J M g w d q) {r : Int} (hr : 0 ≤ r ∧ r < M 0 3) (K : Int32 → AS → Option AR) : cV (CW c A J) w 13 (fX19_loose w (ii r) (CW c A J)) (qI K) = K (ii (cel g r 4 + 10 * gapM M g r)) (CW c A J) := by
  obtain ⟨hM, hP, hS, hG⟩ := h.1.li
  rw [wdV h.1.2.2.1.1, n_loose (J := J) h.1.2.2.1.1 h.1.2.2.1.2 hM hG h.1.2.2.2.2.1 hr, k_C, q_I]
theorem LwD.wood (h : LwD C0 N0 n pl sp tv cap c A J M g w d q) {r : Int} (hr : 0 ≤ r ∧ r < M 0 3) (K : Int32 → AS → Option AR) : cV (CW c A J) w 13 (fX19_wood w (ii r) (CW c A J)) (qI K) = K (ii (suW (M 1) g r)) (CW c A J) := by
  obtain ⟨hM, hP, hS, hG⟩ := h.1.li
  rw [wdV h.1.2.2.1.1, n_wood (J := J) h.1.2.2.1.1 h.1.2.2.1.2 hM hG h.1.2.2.2.2.1 hr, k_C, q_I]
theorem n_looks22 (hh : LwD C0 N0 n pl sp tv cap c A J M g w d q) : fL_looks 0 w (CW c A J) = fL_looks_125 0 w (ii (wgN (gapM M g) (M 0 3 - 1).toNat)) (ii (lsN (fun r => cel g r 0) (fun r => cel g r 4 + 10 * gapM M g r) (M 0 3).toNat)) (ii (-1)) (ii 0) (ii (sm (gapM M g) (M 0 3))) (ii (sm (suW (M 1) g) (M 0 3))) (ii (sm (fun r => cel g r 1) (M 0 3))) (CW c A J) := by
  have hM := hh.1.li.1
  have hG := hh.1.li.2.2.2
  have h38 := hM.1.2.1
  have h39 := hM.1.2.2.2.2.2.2.2
  have h4 := hh.1.2.2.2.2.1
  have hW := hh.1.2.2.1.1
  have hR := hh.1.2.2.1.2
  have s1 := hR.1.1.2.1
  rw [fL_looks, lt_q, lt_q, show (0 : Int32) = ii 0 from rfl, show ((-1) : Int32) = ii (-1) from rfl]
  refine lp (fun f r (s : Int × Int × Int × Int × Int) => fL_looks_22 f 0 w (ii s.1) (ii s.2.1) (ii (-1)) (ii 0) (ii s.2.2.1) (ii s.2.2.2.1) (ii s.2.2.2.2) (ii r) (CW c A J)) (fun x => x = _)
    (fun r s => 0 ≤ r ∧ s.1 = wgN (gapM M g) (r - 1).toNat ∧ s.2.1 = lsN (fun r => cel g r 0) (fun r => cel g r 4 + 10 * gapM M g r) r.toNat ∧ s.2.2.1 = sm (gapM M g) r ∧ s.2.2.2.1 = sm (suW (M 1) g) r ∧ s.2.2.2.2 = sm (fun r => cel g r 1) r) (M 0 3) ?_ ?_ FU 0 (0, -1, 0, 0, 0) (by omega) ⟨by omega, rfl, rfl, rfl, rfl, rfl⟩ (by have := FU_e; omega)
  · rintro f r ⟨a1, a2, a3, a4, a5⟩ hi ⟨hi0, e1, e2, e3, e4, e5⟩
    dsimp only at e1 e2 e3 e4 e5 ⊢
    have hr : 0 ≤ r ∧ r < M 0 3 := ⟨hi0, hi⟩
    have hgr := hG.1.1 r hr.1 (by omega)
    have b0 := hgr.1
    have b1 := hgr.2.1
    have b2 := hgr.2.2.2.2.1
    have b3 := hgr.2.2.2.2.2.1
    have b4 := hgr.2.2.2.2.2.2
    have hgb := gapM_b hM hgr
    have w1 := wgN_b (gapM M g) (r - 1).toNat
    have l1 := lsN_b (fun r => cel g r 0) (fun r => cel g r 4 + 10 * gapM M g r) r.toNat
    have ha1 : 0 ≤ a1 ∧ a1 < M 0 3 := by
      by_cases y : r = 0
      · rw [e1, y]
        exact ⟨Int.le_refl 0, by show (0 : Int) < M 0 3; omega⟩
      · omega
    have hg1 := gapM_b hM (hG.1.1 a1 ha1.1 (by omega))
    obtain ⟨⟨w27, w28, w29, w30, w31⟩, wB, wP⟩ := hR.2.2.2.1 r hr.1 hr.2
    have n1 : (if gapM M g a1 < gapM M g r then r else a1) = wgN (gapM M g) (r + 1 - 1).toNat := by
      by_cases y : r = 0
      · rw [y] at e1 ⊢
        have z : a1 = 0 := e1
        rw [z, if_neg (by omega)]
        rfl
      · rw [show (r + 1 - 1).toNat = (r - 1).toNat + 1 by omega]
        show _ = if gapM M g (wgN (gapM M g) (r - 1).toNat) < gapM M g (((r - 1).toNat : Nat) + 1) then (((r - 1).toNat : Nat) : Int) + 1 else wgN (gapM M g) (r - 1).toNat
        rw [← e1, show (((r - 1).toNat : Nat) : Int) + 1 = r by omega]
    have n2 : (if cel g r 0 ≤ 0 then a2 else if a2 = -1 ∨ cel g a2 4 + 10 * gapM M g a2 < cel g r 4 + 10 * gapM M g r then r else a2) = lsN (fun r => cel g r 0) (fun r => cel g r 4 + 10 * gapM M g r) (r + 1).toNat := by
      rw [show (r + 1).toNat = r.toNat + 1 by omega]
      show _ = if cel g (r.toNat : Nat) 0 ≤ 0 then lsN (fun r => cel g r 0) (fun r => cel g r 4 + 10 * gapM M g r) r.toNat else if lsN (fun r => cel g r 0) (fun r => cel g r 4 + 10 * gapM M g r) r.toNat = -1 ∨ cel g (lsN (fun r => cel g r 0) (fun r => cel g r 4 + 10 * gapM M g r) r.toNat) 4 + 10 * gapM M g (lsN (fun r => cel g r 0) (fun r => cel g r 4 + 10 * gapM M g r) r.toNat) < cel g (r.toNat : Nat) 4 + 10 * gapM M g (r.toNat : Nat) then ((r.toNat : Nat) : Int) else lsN (fun r => cel g r 0) (fun r => cel g r 4 + 10 * gapM M g r) r.toNat
      rw [← e2, show ((r.toNat : Nat) : Int) = r by omega]
    refine Or.inr ⟨(if gapM M g a1 < gapM M g r then r else a1, if cel g r 0 ≤ 0 then a2 else if a2 = -1 ∨ cel g a2 4 + 10 * gapM M g a2 < cel g r 4 + 10 * gapM M g r then r else a2, a3 + gapM M g r, a4 + suW (M 1) g r, a5 + cel g r 1), ⟨by omega, n1, n2, ?_, ?_, ?_⟩, ?_⟩
    · dsimp only; rw [sm_s _ _ hi0, e3]
    · dsimp only; rw [sm_s _ _ hi0, e4]
    · dsimp only; rw [sm_s _ _ hi0, e5]
    · show fL_looks_22 (f + 1) 0 w (ii a1) (ii a2) (ii (-1)) (ii 0) (ii a3) (ii a4) (ii a5) (ii r) (CW c A J) = _
      have h85 : ∀ x y : Int, fL_looks_85 (fL_looks_22 f) 0 w (ii x) (ii y) (ii (-1)) (ii 0) (ii a3) (ii a4) (ii a5) (ii r) (CW c A J) = fL_looks_22 f 0 w (ii x) (ii y) (ii (-1)) (ii 0) (ii (a3 + gapM M g r)) (ii (a4 + suW (M 1) g r)) (ii (a5 + cel g r 1)) (ii (r + 1)) (CW c A J) := fun x y => by
        rw [fL_looks_85, hh.gap hr, ii_add, lt_q, hh.wood hr, ii_add, lt_q, wdR10 hW, wdA28 hW r _ (by omega), w28, ii_add, lt_q, ii_s, lt_q]
      have h53 : ∀ x : Int, fL_looks_53 (fL_looks_22 f) 0 w (ii a2) (ii (-1)) (ii 0) (ii a3) (ii a4) (ii a5) (ii r) (ii x) (CW c A J) = fL_looks_22 f 0 w (ii x) (ii (if cel g r 0 ≤ 0 then a2 else if a2 = -1 ∨ cel g a2 4 + 10 * gapM M g a2 < cel g r 4 + 10 * gapM M g r then r else a2)) (ii (-1)) (ii 0) (ii (a3 + gapM M g r)) (ii (a4 + suW (M 1) g r)) (ii (a5 + cel g r 1)) (ii (r + 1)) (CW c A J) := fun x => by
        rw [fL_looks_53, wdR9 hW, wdA27 hW r _ (by omega), w27]
        by_cases y : cel g r 0 ≤ 0
        · rw [if_pos (by rw [il0, ii_le _ _ (by omega)]; exact y), if_pos y, h85]
        · rw [if_neg (by rw [il0, ii_le _ _ (by omega)]; exact y), if_neg y]
          by_cases z : a2 = -1
          · rw [if_pos (by rw [il0, ii_lt _ _ (by omega)]; omega), if_pos (Or.inl z), fL_looks_82, h85]
          · have ha2 : 0 ≤ a2 ∧ a2 < M 0 3 := by omega
            have hg2 := hG.1.1 a2 ha2.1 (by omega)
            have hb2 := gapM_b hM hg2
            have hb4 := hg2.2.2.2.2.2.2
            rw [if_neg (by rw [il0, ii_lt _ _ (by omega)]; omega), hh.loose hr, hh.loose ha2]
            by_cases u : cel g a2 4 + 10 * gapM M g a2 < cel g r 4 + 10 * gapM M g r
            · rw [if_neg (by rw [ii_le _ _ (by omega)]; omega), if_pos (Or.inr u), fL_looks_82, h85]
            · rw [if_pos (by rw [ii_le _ _ (by omega)]; omega), if_neg (by omega), h85]
      rw [fL_looks_22, wdR1 hW, wd3 hW 1 1 rfl (by omega), s1, if_neg (by rw [ii_le _ _ (by omega)]; omega), hh.gap hr, hh.gap ha1]
      by_cases y : gapM M g a1 < gapM M g r
      · rw [if_neg (by rw [ii_le _ _ (by omega)]; omega), if_pos y, h53]
      · rw [if_pos (by rw [ii_le _ _ (by omega)]; omega), if_neg y, h53]
  · rintro f ⟨a1, a2, a3, a4, a5⟩ ⟨hi0, e1, e2, e3, e4, e5⟩
    dsimp only at e1 e2 e3 e4 e5 ⊢
    rw [fL_looks_22, wdR1 hW, wd3 hW 1 1 rfl (by omega), s1, if_pos (Int32.le_refl _), e1, e2, e3, e4, e5]
theorem n_looks137 (hh : LwD C0 N0 n pl sp tv cap c0 A0 J0 M g w d q) (hro : RO C0 N0 n cap c0 200 500) (hb : BX 2 27 c0 c A0 A J0 J B tvb capb tP0) (x2 x3 x6 x7 x8 : Int32) : ∃ (c' : CC) (A' : AI) (J' : JI) (tvb' capb' : Nat) (v : Int), fL_looks_137 FU 0 w x2 x3 (ii (-1)) (ii 0) x6 x7 x8 B 0 (CW c A J) = fL_looks_268 0 w x2 x3 (ii v) (ii (sm (fun k => M 2 k * g (6 + k)) (M 0 9))) x6 x7 x8 B (CW c' A' J') ∧ BX 2 27 c0 c' A0 A' J0 J' B tvb' capb' (stP (M 1) (M 2) g (M 0 9).toNat) ∧ isFsB (fun k => 0 < g (6 + k)) (A0 (pl + 3)) (M 0 9) (M 0 9) v := by
  have hM := hh.1.li.1
  have hG := hh.1.li.2.2.2
  have h38 := hM.1.2.1
  have h39 := hM.1.2.2.2.2.2.2.2
  have h4 := hh.1.2.2.2.2.1
  have hO := hh.ord
  have hpl := hh.plE
  have hw := hh.1.2.2.2.1
  have hl9 : ∀ k, 0 ≤ k → k < 10 → M 2 k ≤ 99 := fun k a b => (hM.2.2.1 k a b).2
  rw [show (0 : Int32) = ii 0 from rfl]
  refine lp (fun f i (s : (CC × AI × JI) × Int × Int) => fL_looks_137 f 0 w x2 x3 (ii s.2.1) (ii s.2.2) x6 x7 x8 B (ii i) (CW s.1.1 s.1.2.1 s.1.2.2)) (fun x => ∃ (c' : CC) (A' : AI) (J' : JI) (tvb' capb' : Nat) (v : Int), x = fL_looks_268 0 w x2 x3 (ii v) (ii (sm (fun k => M 2 k * g (6 + k)) (M 0 9))) x6 x7 x8 B (CW c' A' J') ∧ BX 2 27 c0 c' A0 A' J0 J' B tvb' capb' (stP (M 1) (M 2) g (M 0 9).toNat) ∧ isFsB (fun k => 0 < g (6 + k)) (A0 (pl + 3)) (M 0 9) (M 0 9) v)
    (fun i s => 0 ≤ i ∧ (∃ tvb' capb' : Nat, BX 2 27 c0 s.1.1 A0 s.1.2.1 J0 s.1.2.2 B tvb' capb' (stP (M 1) (M 2) g i.toNat)) ∧ isFsB (fun k => 0 < g (6 + k)) (A0 (pl + 3)) (M 0 9) i s.2.1 ∧ s.2.2 = sm (fun k => M 2 k * g (6 + k)) i) (M 0 9) ?_ ?_ FU 0 ((c, A, J), -1, 0) (by omega) ⟨by omega, ⟨tvb, capb, hb⟩, Or.inl ⟨rfl, fun p a b => by omega⟩, rfl⟩ (by have := FU_e; omega)
  · rintro f i ⟨⟨c1, A1, J1⟩, v, l⟩ hi ⟨hi0, ⟨t1, k1, b1⟩, hv, hl⟩
    dsimp only at b1 hv hl ⊢
    have hs1 := stP_b (met := M 1) (len := M 2) (g := g) (M 0 9) h39.2 hl9 i.toNat (by omega)
    have hc1 := b1.2.2.2
    have hL := hG.GL i hi0 (by omega)
    have hm := hM.2.1 i hi0 (by omega)
    have hv2 := hM.2.2.1 i hi0 (by omega)
    have s1 := hh.lx b1.1 (by omega)
    have hW1 := s1.1.2.2.1.1
    have wK := s1.1.2.2.1.2.1.2.1
    obtain ⟨P, hP⟩ : ∃ P, P = if i ≤ 0 then stP (M 1) (M 2) g i.toNat else tC 44 (stP (M 1) (M 2) g i.toNat) := ⟨_, rfl⟩
    have hPb : (stP (M 1) (M 2) g i.toNat).1 ≤ P.1 ∧ P.1 ≤ (stP (M 1) (M 2) g i.toNat).1 + 1 := by
      rw [hP]
      split
      · omega
      · rw [tC_1]; omega
    have nd1 := nd_2 (M 2 i) (by omega)
    have nd2 := nd_b (M 2 i)
    obtain ⟨its, hits⟩ : ∃ its, its = A0 (pl + 3) (M 0 9 - 1 - i) := ⟨_, rfl⟩
    have hitb := hO.1 (M 0 9 - 1 - i) (by omega) (by omega)
    rw [← hits] at hitb
    have hLi := hG.GL its hitb.1 (by omega)
    have h178 : ∀ (c5 : CC) (A5 : AI) (J5 : JI) (t5 k5 : Nat), BX 2 27 c0 c5 A0 A5 J0 J5 B t5 k5 P → ∀ ch : Int, ch = (if M 1 i = 0 then 119 else 109) → ∃ (c6 : CC) (A6 : AI) (J6 : JI) (t6 k6 : Nat), fL_looks_178 (fL_looks_137 f) 0 w x2 x3 (ii v) (ii l) x6 x7 x8 B (ii i) B (ii ch) (CW c5 A5 J5) = fL_looks_137 f 0 w x2 x3 (ii (if 0 < g (6 + its) then its else v)) (ii (l + M 2 i * g (6 + i))) x6 x7 x8 B (ii (i + 1)) (CW c6 A6 J6) ∧ BX 2 27 c0 c6 A0 A6 J0 J6 B t6 k6 (tN (g (6 + i)) (tC 58 (tK (M 1) (M 2) i P))) := by
      intro c5 A5 J5 t5 k5 b5 ch hch
      obtain ⟨c6, A6, J6, t6, k6, e6, b6⟩ := k_bA b5 ch (by rw [hch]; split <;> omega) (by omega) (x := ii ch) rfl
      have hc6 := b6.2.2.2
      rw [tC_1] at hc6
      have s6 := hh.lx b6.1 (by omega)
      have hW6 := s6.1.2.2.1.1
      have wL6 := (s6.1.2.2.1.2.2.1 i hi0 hi).1
      obtain ⟨c7, A7, J7, t7, k7, e7, b7⟩ := k_bN b6 (M 2 i) (by omega) (by rw [tC_1]; omega)
      obtain ⟨c8, A8, J8, t8, k8, e8, b8⟩ := k_bA b7 58 (by omega) (by rw [tN_1, tC_1]; omega) (x := 58) rfl
      have hc8 := b8.2.2.2
      rw [tC_1, tN_1, tC_1] at hc8
      have s8 := hh.lx b8.1 (by omega)
      have hW8 := s8.1.2.2.1.1
      have wS8 := (s8.1.2.2.1.2.2.1 i hi0 hi).2.2
      obtain ⟨c9, A9, J9, t9, k9, e9, b9⟩ := k_bN b8 (g (6 + i)) (by omega) (by rw [tC_1, tN_1, tC_1]; omega)
      have hc9 := b9.2.2.2
      have nd3 := nd_b (g (6 + i))
      rw [tN_1, tC_1, tN_1, tC_1] at hc9
      have s9 := hh.lx b9.1 (by omega)
      have hW9 := s9.1.2.2.1.1
      have hR9 := s9.1.2.2.1.2
      have eo : A9 (pl + 3) = A0 (pl + 3) := funext fun z => b9.1.2.2.1 _ z (by omega) (fun y => by have := scC_lt y; omega)
      have wL9 := (hR9.2.1 i hi0 hi).1
      have wS9 := (hR9.2.1 i hi0 hi).2.2
      have wK9 := hR9.1.2.1
      have wO9 := hR9.2.2.2.2.1 (M 0 9 - 1 - i) (by omega) (by omega)
      rw [eo, ← hits] at wO9
      have wI9 := (hR9.2.1 its hitb.1 hitb.2).2.2
      refine ⟨c9, A9, J9, t9, k9, ?_, ?_⟩
      · rw [fL_looks_178, e6, wdR2 hW6, wdA4 hW6 i _ (by omega), wL6, e7, e8, wdR3 hW8, wdA5 hW8 i _ (by omega), wS8, e9, wdR2 hW9, wdA4 hW9 i _ (by omega), wL9, wdR3 hW9, wdA5 hW9 i _ (by omega), wS9, ii_mul, ii_add, lt_q, wdR4 hW9, wdI14 hW9, wK9, ii_p, ii_sub, wdA6 hW9 _ _ (by omega), wO9, wdR3 hW9, wdA5 hW9 its _ (by omega), wI9]
        by_cases y : 0 < g (6 + its)
        · rw [if_neg (by rw [il0, ii_le _ _ (by omega)]; omega), if_pos y, fL_looks_260, ii_s, lt_q]
        · rw [if_pos (by rw [il0, ii_le _ _ (by omega)]; omega), if_neg y, fL_looks_260, ii_s, lt_q]
      · rw [hch] at b9
        exact b9
    have h159 : ∀ (c5 : CC) (A5 : AI) (J5 : JI) (t5 k5 : Nat), BX 2 27 c0 c5 A0 A5 J0 J5 B t5 k5 P → ∃ (c6 : CC) (A6 : AI) (J6 : JI) (t6 k6 : Nat), fL_looks_159 (fL_looks_137 f) 0 w x2 x3 (ii v) (ii l) x6 x7 x8 B (ii i) (CW c5 A5 J5) = fL_looks_137 f 0 w x2 x3 (ii (if 0 < g (6 + its) then its else v)) (ii (l + M 2 i * g (6 + i))) x6 x7 x8 B (ii (i + 1)) (CW c6 A6 J6) ∧ BX 2 27 c0 c6 A0 A6 J0 J6 B t6 k6 (tN (g (6 + i)) (tC 58 (tK (M 1) (M 2) i P))) := by
      intro c5 A5 J5 t5 k5 b5
      have hc5 := b5.2.2.2
      have s5 := hh.lx b5.1 (by omega)
      have hW5 := s5.1.2.2.1.1
      have wM5 := (s5.1.2.2.1.2.2.1 i hi0 hi).2.1
      by_cases y : M 1 i = 0
      · obtain ⟨c6, A6, J6, t6, k6, e6, b6⟩ := h178 c5 A5 J5 t5 k5 b5 119 (if_pos y).symm
        refine ⟨c6, A6, J6, t6, k6, ?_, b6⟩
        rw [fL_looks_159, wdR6 hW5, wdA8 hW5 i _ (by omega), wM5, if_pos (by rw [y]; rfl)]
        exact e6
      · obtain ⟨c6, A6, J6, t6, k6, e6, b6⟩ := h178 c5 A5 J5 t5 k5 b5 109 (if_neg y).symm
        refine ⟨c6, A6, J6, t6, k6, ?_, b6⟩
        rw [fL_looks_159, wdR6 hW5, wdA8 hW5 i _ (by omega), wM5, if_neg (by rw [il0, ii_eq _ _ (by omega)]; exact y)]
        exact e6
    have hfin : isFsB (fun k => 0 < g (6 + k)) (A0 (pl + 3)) (M 0 9) (i + 1) (if 0 < g (6 + its) then its else v) := by
      by_cases y : 0 < g (6 + its)
      · rw [if_pos y]
        refine Or.inr ⟨M 0 9 - 1 - i, by omega, hits, ?_, fun p a b => by omega⟩
        show 0 < g (6 + A0 (pl + 3) (M 0 9 - 1 - i))
        rw [← hits]
        exact y
      · rw [if_neg y]
        have ny : ∀ p, p = M 0 9 - 1 - i → ¬ 0 < g (6 + A0 (pl + 3) p) := fun p e => by rw [e, ← hits]; exact y
        rcases hv with ⟨a, b⟩ | ⟨p, a, b, e, u⟩
        · refine Or.inl ⟨a, fun p x z => ?_⟩
          by_cases t : p = M 0 9 - 1 - i
          · exact ny p t
          · exact b p (by omega) z
        · refine Or.inr ⟨p, by omega, b, e, fun p2 x z => ?_⟩
          by_cases t : p2 = M 0 9 - 1 - i
          · exact ny p2 t
          · exact u p2 (by omega) z
    have hbeg : ∃ (c6 : CC) (A6 : AI) (J6 : JI) (t6 k6 : Nat), fL_looks_137 (f + 1) 0 w x2 x3 (ii v) (ii l) x6 x7 x8 B (ii i) (CW c1 A1 J1) = fL_looks_137 f 0 w x2 x3 (ii (if 0 < g (6 + its) then its else v)) (ii (l + M 2 i * g (6 + i))) x6 x7 x8 B (ii (i + 1)) (CW c6 A6 J6) ∧ BX 2 27 c0 c6 A0 A6 J0 J6 B t6 k6 (tN (g (6 + i)) (tC 58 (tK (M 1) (M 2) i P))) := by
      by_cases y : i ≤ 0
      · rw [if_pos y] at hP
        obtain ⟨c6, A6, J6, t6, k6, e6, b6⟩ := h159 c1 A1 J1 t1 k1 (by rw [hP]; exact b1)
        refine ⟨c6, A6, J6, t6, k6, ?_, b6⟩
        rw [fL_looks_137, wdI14 hW1, wK, if_neg (by rw [ii_le _ _ (by omega)]; omega), if_pos (by rw [il0, ii_le _ _ (by omega)]; exact y), e6]
      · rw [if_neg y] at hP
        obtain ⟨c5, A5, J5, t5, k5, e5, b5⟩ := k_bA b1 44 (by omega) (by omega) (x := 44) rfl
        obtain ⟨c6, A6, J6, t6, k6, e6, b6⟩ := h159 c5 A5 J5 t5 k5 (by rw [hP]; exact b5)
        refine ⟨c6, A6, J6, t6, k6, ?_, b6⟩
        rw [fL_looks_137, wdI14 hW1, wK, if_neg (by rw [ii_le _ _ (by omega)]; omega), if_neg (by rw [il0, ii_le _ _ (by omega)]; exact y), e5, e6]
    obtain ⟨c6, A6, J6, t6, k6, e6, b6⟩ := hbeg
    refine Or.inr ⟨((c6, A6, J6), _, _), ⟨by omega, ⟨t6, k6, ?_⟩, hfin, ?_⟩, e6⟩
    · dsimp only
      rw [stP_s _ _ _ _ hi0, ← hP]
      exact b6
    · dsimp only
      rw [sm_s _ _ hi0, hl]
  · rintro f ⟨⟨c1, A1, J1⟩, v, l⟩ ⟨hi0, ⟨t1, k1, b1⟩, hv, hl⟩
    dsimp only at b1 hv hl ⊢
    have hs1 := stP_b (met := M 1) (len := M 2) (g := g) (M 0 9) h39.2 hl9 (M 0 9).toNat (by omega)
    have hc1 := b1.2.2.2
    have s1 := hh.lx b1.1 (by omega)
    have hW1 := s1.1.2.2.1.1
    have wK := s1.1.2.2.1.2.1.2.1
    refine ⟨c1, A1, J1, t1, k1, v, ?_, b1, hv⟩
    rw [fL_looks_137, wdI14 hW1, wK, if_pos (Int32.le_refl _), hl]
end LOK
