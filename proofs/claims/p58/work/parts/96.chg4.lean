/-! CHANGES: relock -/
section CHG4
variable {C0 N0 n : Nat} {K : Nat × Nat} {c : CC} {A : AI} {J : JI} {M : AI} {g g' o : Int → Int} {pl sp tv cap : Nat} {f B : Int}
theorem up_c4 (M : AI) (X : Int → Int) : up (cA4 M X) 0 0 0 = cA4 (up M 0 0 0) X := by
  funext b z
  unfold cA4 up
  dsimp only
  by_cases y : b = 4
  · rw [if_neg (by omega), if_pos y, if_pos y]
  · rw [if_neg y, if_neg y]
theorem scr_thr2 {M M' : AI} (h : scr M M') (v w : Int) : scr (up M 0 0 w) (up (up M' 0 0 v) 0 0 w) := by
  rw [up_up]
  refine ⟨fun z q => ?_, fun b z q p => ?_⟩
  · by_cases z0 : z = 0
    · rw [z0, up_s, up_s]
    · rw [up_n _ _ _ _ _ _ (fun e => z0 e.2), up_n _ _ _ _ _ _ (fun e => z0 e.2)]; exact h.1 z q
  · rw [up_n _ _ _ _ _ _ (by omega), up_n _ _ _ _ _ _ (by omega)]; exact h.2 b z q p
theorem up_id (M : AI) (h : M 0 0 = 0) : up M 0 0 0 = M := by
  funext b z
  unfold up
  split
  case isTrue q => rw [q.1, q.2, h]
  case isFalse q => rfl
theorem iv_eq {a b : Int} {W W' : AS} (h : (some (Sum.inl (some (Value.int (ii (a)))), W) : Option AR) = some (Sum.inl (some (Value.int (ii (b)))), W')) (ha : -2147483648 ≤ a ∧ a < 2147483648) (hb : -2147483648 ≤ b ∧ b < 2147483648) : a = b := by
  have h1 : ii a = ii b := by
    injection h with h
    injection h with h h2
    injection h with h
    injection h with h
    injection h
  rwa [ii_eq a b ⟨ha, hb⟩] at h1
theorem fresh_cg (K : Nat × Nat) (hI : Inv C0 N0 n pl sp tv cap c A J M g) (r : Int) (hl : M 0 1 = 1) (hr : 0 ≤ r ∧ r < up M 0 0 0 0 3) (e : ∀ z, 0 ≤ z → z < 4112 → g' z = g z) : (chL (up M 0 0 0) (gEmp g' r) (A (pl + 3)) r).1 < 1000000 ↔ (chL (up M 0 0 0) (gEmp g r) (A (pl + 3)) r).1 < 1000000 := by
  have hI' := hI.cg e
  obtain ⟨h10, hM, hP, hS, hG⟩ := hI.ld hl
  obtain ⟨-, -, -, -, hG'⟩ := hI'.ld hl
  obtain ⟨B1, J1, x1, -⟩ := c_fresh K hI r hl hr
  obtain ⟨B2, J2, x2, -⟩ := c_fresh K hI' r hl hr
  have hB : 0 ≤ Bn n := by unfold Bn; omega
  have b1 := (chL_b (o := A (pl + 3)) hM ((hG.emp hM hr hB).need hM hr).1).1
  have b2 := (chL_b (o := A (pl + 3)) hM ((hG'.emp hM hr hB).need hM hr).1).1
  have h := iv_eq (x2.symm.trans x1) (by split <;> omega) (by split <;> omega)
  constructor
  · intro y
    rw [if_pos y] at h
    by_cases w : (chL (up M 0 0 0) (gEmp g r) (A (pl + 3)) r).1 < 1000000
    · exact w
    · rw [if_neg w] at h; omega
  · intro y
    rw [if_pos y] at h
    by_cases w : (chL (up M 0 0 0) (gEmp g' r) (A (pl + 3)) r).1 < 1000000
    · exact w
    · rw [if_neg w] at h; omega
theorem m_rel (hI : Inv C0 N0 n pl sp tv cap c A J M g) (r : Int) (hl : M 0 1 = 1) (hr : 0 ≤ r ∧ r < up M 0 0 0 0 3) : ∃ (X : Int → Int) (M' : AI) (h : Int → Int),
    fX7_putsAside 0 (NW K (mg (up M 0 0 0) g)) = some (Sum.inl none, NW K (mg (cA4 (up M 0 0 0) X) g)) ∧ fX7_empties 0 (ii r) (NW K (mg (cA4 (up M 0 0 0) X) g)) = some (Sum.inl (some (Value.int (ii (cel g r 1)))), NW K (mg (cA4 (up M 0 0 0) X) (gEmp g r))) ∧
    fX7_chooses 0 (ii r) (NW K (mg (cA4 (up M 0 0 0) X) (gEmp g r))) = some (Sum.inl (some (Value.int (ii (if (chL (up M 0 0 0) (gEmp g r) (A (pl + 3)) r).1 < 1000000 then 1 else 0)))), NW K (mg M' (gEmp g r))) ∧
    (∀ v : Int, v = 0 ∨ v = 1 → fX7_flag (ii v) (NW K (mg M' (gEmp g r))) = some (Sum.inl (some (Value.int (ii (v)))), NW K (mg M' (gEmp g r)))) ∧
    fX7_fetchesBack 0 (ii (if (chL (up M 0 0 0) (gEmp g r) (A (pl + 3)) r).1 < 1000000 then 1 else 0)) (NW K (mg M' (gEmp g r))) = some (Sum.inl (some (Value.int (ii (if (chL (up M 0 0 0) (gEmp g r) (A (pl + 3)) r).1 < 1000000 then 1 else 0)))), NW K (mg M' h)) ∧
    scr4 (up M 0 0 0) M' ∧ ∀ z, 0 ≤ z → z < 4112 → h z = g z := by
  have hk := hI.1
  have hRd : isReader c 1 := hk.2.1.1
  have hSv : isSolver c 4 := hk.2.1.2.1
  have hHi : isHist c 21 := hk.2.1.2.2.1
  have hNow : isState c 303 := hk.2.1.2.2.2.1
  have hSpr : isState c 338 := hk.2.1.2.2.2.2.1
  have hPl : isPlan c pl := hk.2.2.2.1.2.1
  have h00 : up M 0 0 0 0 0 = 0 := up_s _ _ _ _
  obtain ⟨h10, hM, hP, hS, hG⟩ := hI.ld hl
  obtain ⟨p0, p1, p2, p3, p4, p5, p6, p7⟩ := hP.1
  have hc1 := c_chase1 (A := A) (J := J) hk h10
  have e3 : up M 0 0 0 0 3 = M 0 3 := up_n _ _ _ _ _ _ (by omega)
  have e9 : up M 0 0 0 0 9 = M 0 9 := up_n _ _ _ _ _ _ (by omega)
  have h38 := hM.1.2.1
  have h910 := hM.1.2.2.2.2.2.2.2
  have hcr := c_row1 (A := A) (J := J) hk h10 r (by rw [p1]; exact hr) (by rw [p1]; exact h38.2)
  have hmr := e_noRow1 (K := K) (M := M) (g := g) hl r (by rw [← e3]; exact hr) (by rw [← e3]; exact h38.2)
  have hr8 : 0 ≤ r ∧ r < 8 := by omega
  have hR := hNow.row r hr8
  have hrr := hS.2 r hr.1 (by omega)
  have hgr := hG.1.1 r hr.1 (by omega)
  have h37 : up M 0 0 0 0 37 = -1 := (up_n _ _ _ _ _ _ (by omega)).trans hI.2.2.2.1
  have hO := hP.2.2
  obtain ⟨X, x1, x2⟩ := e_putsAside (K := K) (M := up M 0 0 0) (g := g)
  have hM4 : SA (cA4 (up M 0 0 0) X) := hM
  have hGe : GC (cA4 (up M 0 0 0) X) (gEmp g r) (Bn n) := hG.emp hM hr (by unfold Bn; omega)
  have hgr2 := hGe.1.1 r hr.1 (by omega)
  have a1 := e_empties (K := K) (A := cA4 (up M 0 0 0) X) hr8 hgr
  obtain ⟨M', m1, ms, m36, m12, m14⟩ := e_chooses (K := K) (A := cA4 (up M 0 0 0) X) (o := A (pl + 3)) hM4 hGe.GL (by show -1 ≤ up M 0 0 0 0 37 ∧ up M 0 0 0 0 37 < 10; omega) hO hr8 hgr2 hGe.h0 (hGe.need hM4 hr).1
  have es : scr4 (up M 0 0 0) M' := (scr4_c4 _ X).trans ms.s4
  have e4 : ∀ z, M' 4 z = X z := fun z => ms.2 4 z (by omega) (by omega)
  obtain ⟨h, b1, b2⟩ := e_fetchesBack (K := K) (M := M') (g := gEmp g r) (if (chL (up M 0 0 0) (gEmp g r) (A (pl + 3)) r).1 < 1000000 then 1 else 0)
  exact ⟨X, M', h, x1, a1, m1, fun v hv => e_flag v (by omega) _, b1, es, fun z a b => by rw [b2 z a b, e4, x2 z a b]⟩
theorem c_rel (K : Nat × Nat) (hI : Inv C0 N0 n pl sp tv cap c A J M g) (r : Int) (hl : M 0 1 = 1) (hr : 0 ≤ r ∧ r < up M 0 0 0 0 3) : ∃ (A1 : AI) (J1 : JI) (A2 A3 A4 : AI),
    fX5_copyFrom 338 303 (CW c A J) = some (Sum.inl none, CW c A1 J1) ∧ fX5_empty 338 (ii r) (CW c A1 J1) = some (Sum.inl none, CW c A2 J1) ∧ fX6_solve 0 338 (rc 338 r) (CW c A2 J1) = some (Sum.inl (some (Value.int (ii (if (chL (up M 0 0 0) (gEmp g r) (A (pl + 3)) r).1 < 1000000 then 1 else 0)))), CW c A4 J1) ∧
    PCC A3 A4 (up M 0 0 0) (gEmp g r) (A (pl + 3)) r ∧ frm scC A A4 J J1 := by
  have hk := hI.1
  have hRd : isReader c 1 := hk.2.1.1
  have hSv : isSolver c 4 := hk.2.1.2.1
  have hHi : isHist c 21 := hk.2.1.2.2.1
  have hNow : isState c 303 := hk.2.1.2.2.2.1
  have hSpr : isState c 338 := hk.2.1.2.2.2.2.1
  have hPl : isPlan c pl := hk.2.2.2.1.2.1
  have h00 : up M 0 0 0 0 0 = 0 := up_s _ _ _ _
  obtain ⟨h10, hM, hP, hS, hG⟩ := hI.ld hl
  obtain ⟨p0, p1, p2, p3, p4, p5, p6, p7⟩ := hP.1
  have hc1 := c_chase1 (A := A) (J := J) hk h10
  have e3 : up M 0 0 0 0 3 = M 0 3 := up_n _ _ _ _ _ _ (by omega)
  have e9 : up M 0 0 0 0 9 = M 0 9 := up_n _ _ _ _ _ _ (by omega)
  have h38 := hM.1.2.1
  have h910 := hM.1.2.2.2.2.2.2.2
  have hcr := c_row1 (A := A) (J := J) hk h10 r (by rw [p1]; exact hr) (by rw [p1]; exact h38.2)
  have hmr := e_noRow1 (K := K) (M := M) (g := g) hl r (by rw [← e3]; exact hr) (by rw [← e3]; exact h38.2)
  have hr8 : 0 ≤ r ∧ r < 8 := by omega
  have hR := hNow.row r hr8
  have hrr := hS.2 r hr.1 (by omega)
  have hgr := hG.1.1 r hr.1 (by omega)
  have h37 : up M 0 0 0 0 37 = -1 := (up_n _ _ _ _ _ _ (by omega)).trans hI.2.2.2.1
  have hap := hk.2.2.2.1.1
  obtain ⟨A1, J1, e1, s1, f1⟩ := s_copy (c := c) hSpr hNow (by omega) hS hG.1.1
  obtain ⟨A2, e2, s2, f2⟩ := s_empty (c := c) hSpr s1 hG.1.1 hG.1.2.1 r hr8
  have hGe : GC (up M 0 0 0) (gEmp g r) (Bn n) := hG.emp hM hr (by unfold Bn; omega)
  have hP2 : PR A2 pl (up M 0 0 0) := PR_S (PR_S hP (by omega) f1) (by omega) f2
  have hpo : A2 (pl + 3) = A (pl + 3) := funext fun z => by rw [f2.1 _ _ (by unfold inS; omega), f1.1 _ _ (by unfold inS; omega)]
  obtain ⟨A3, A', e3, v1, v2, k3, f3⟩ := c_solve (c := c) hk hSpr ⟨by omega, Or.inr (by omega)⟩ s2 hP2 hM hGe h37 r hr
  rw [hpo] at e3 v1 v2 k3
  refine ⟨A1, J1, A2, A3, A', e1, e2, e3, k3, fun b z hb => ?_, fun b z hb => f1.2 b z (fun x => hb (Or.inr x))⟩
  have hb1 : ¬ inV 4 b := fun x => hb (Or.inl x)
  have hb2 : ¬ inS 338 b := fun x => hb (Or.inr x)
  rw [f3 b z hb1, f2.1 b z hb2, f1.1 b z hb2]
/-- the choice of a content goes in, once the history holds what was -/
theorem lk_set (K : Nat × Nat) {A0 A1 A4 : AI} {J1 : JI} {N M1 : AI} {h : Int → Int} (hk : isLock c pl sp tv cap) (hn : n ≤ 600) (hNow : isState c 303) (hS1 : SR A1 J1 303 (M1 2) h (h 5)) (hM1 : SA M1) (hP1 : PR A1 pl M1) (hG1 : GC M1 h (Bn n)) (u0 : ∀ z, 2 ≤ z → z ≤ 9 → M1 0 z = N 0 z) (u37 : M1 0 37 = N 0 37) (h37 : N 0 37 = -1) (u2 : M1 2 = N 2) (r : Int) (hr1 : 0 ≤ r ∧ r < M1 0 3)
    (y : (chL N h (A1 (pl + 3)) r).1 < 1000000) (k3 : PCC A0 A4 N h (A1 (pl + 3)) r) (wf : ∀ z, A1 4 z = A4 4 z ∧ A1 20 z = A4 20 z) : ∃ (A2 : AI) (J2 : JI) (M2 : AI) (g2 : Int → Int) (v : Int),
    fX5_fill 303 pl (ii r) 4 (CW c A1 J1) = some (Sum.inl none, CW c A2 J2) ∧ A2 4 5 = v ∧ fX7_locks 0 (ii r) (NW K (mg M1 h)) = some (Sum.inl (some (Value.int (ii (1)))), NW K (mg M2 g2)) ∧ fX7_chosenMany 0 (ii 0) (NW K (mg M2 g2)) = some (Sum.inl (some (Value.int (ii (v)))), NW K (mg M2 g2)) ∧ scr M1 M2 ∧ SR A2 J2 303 (M1 2) g2 (g2 5) ∧ GC M1 g2 (Bn n) ∧ frm (inS 303) A1 A2 J1 J2 := by
  have hap := hk.2.2.2.1.1
  have hPl : isPlan c pl := hk.2.2.2.1.2.1
  have hSv : isSolver c 4 := hk.2.1.2.1
  have cL := chL_at u0 u37 u2 h (A1 (pl + 3)) r
  have cS := chS_at u0 u37 u2 h (A1 (pl + 3)) r
  have cT := stM_at u37 h
  have y1 : (chL M1 h (A1 (pl + 3)) r).1 < 1000000 := by rw [cL]; exact y
  have hO1 := hP1.2.2
  have h3 := hM1.1.2.1
  have hr8 : 0 ≤ r ∧ r < 8 := by omega
  have hgr := hG1.1.1 r hr8.1 hr8.2
  obtain ⟨⟨k5, k6, k7⟩, k20⟩ := k3.1 y
  obtain ⟨hc1', hc2'⟩ := hG1.lockB (o := A1 (pl + 3)) hM1 hO1 hr1 y1
  have hcb := (chL_b (o := A1 (pl + 3)) hM1 (hG1.need hM1 hr1).1).2.1
  have h5 := hM1.1.2.2.2.1
  have h9 := hM1.1.2.2.2.2.2.2.2
  have v5 : A1 4 5 = (chL M1 h (A1 (pl + 3)) r).1 := by rw [(wf 5).1, k5, cL]
  obtain ⟨A2, J2, e2, s2, f2⟩ := s_fill (c := c) hNow hPl hSv (by omega) (by omega) hS1 hG1.1.1 hM1 hP1 r (chL M1 h (A1 (pl + 3)) r).2 hr8 (by omega) (tk (M1 0 9) (A1 (pl + 3)) (M1 2) (stM M1 h) (chS M1 h (A1 (pl + 3)) r)) (by rw [(wf 7).1, k7, cL]) (fun p a b => by
    show A1 20 _ = _
    rw [(wf _).2, cS, cT, u2, u0 9 (by omega) (by omega)]
    exact k20 p a (by rw [← u0 9 (by omega) (by omega)]; exact b)) hc1' hc2'
  obtain ⟨M2, q1, q2, q3⟩ := e_locks (K := K) (A := M1) (g := h) (o := A1 (pl + 3)) (r := r) hM1 hG1.GL (by rw [u37]; omega) hO1 hr8 hgr hG1.h0 (hG1.need hM1 hr1).1 (fun _ => hc2')
  rw [if_pos y1, if_pos y1] at q1
  obtain ⟨t1, -⟩ := m_many (o := A1 (pl + 3)) hM1 hG1.GL hO1 r (hG1.need hM1 hr1).1 y1 q2 (q3 y1)
  have hmy := e_chosenMany0 (K := K) (A := M2) (g := gLock h r (A1 (pl + 3)) (tk (M1 0 9) (A1 (pl + 3)) (M1 2) (stM M1 h) (chS M1 h (A1 (pl + 3)) r)) (M1 0 9) (chL M1 h (A1 (pl + 3)) r).2) (by rw [q2.1 9 (by omega)]; exact h9)
  rw [t1] at hmy
  have hBn : 0 ≤ Bn n ∧ Bn n ≤ 600000000 := by unfold Bn; omega
  have hG2 := hG1.lock hM1 (u37.trans h37) hO1 hr1 hBn y1
  have v5b : A2 4 5 = (chL M1 h (A1 (pl + 3)) r).1 := by rw [f2.1 _ _ (by unfold inS; omega)]; exact v5
  refine ⟨A2, J2, M2, _, _, e2, v5b, q1, hmy, q2, ?_, hG2, f2⟩
  rw [gLock_5 _ _ _ _ _ _ hr8.1 hgr (by omega) (by omega) (fun q a b => ⟨by have := hO1.1 q a b; omega, (hc1' q a b).1⟩) hc2']
  exact s2
end CHG4
