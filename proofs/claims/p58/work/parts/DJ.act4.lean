/-! THE LAW: changes IV: lock, relock; all -/
section AC4
variable {C0 N0 n : Nat} {c : CC} {A : AI} {J : JI} {M : AI} {g : Int → Int} {pl sp tv cap w d : Nat} {q r : Int}
theorem gLock_1 {B : Int} {o : Int → Int} (hM : SA M) (h : GC M g B) (hO : ordOK (M 1) (M 2) (M 0 9) o) (hr : 0 ≤ r ∧ r < M 0 3) (hc : (chL M g o r).1 < 1000000) : cel (gLock g r o (tk (M 0 9) o (M 2) (stM M g) (chS M g o r)) (M 0 9) (chL M g o r).2) r 1 = cel g r 1 + (chL M g o r).1 := by
  have h38 := hM.1.2.1
  have h5 := hM.1.2.2.2.1
  have h9 := hM.1.2.2.2.2.2.2.2
  obtain ⟨l1, l2⟩ := h.lockB hM hO hr hc
  have hcb := chL_b (o := o) hM (h.need hM hr).1
  obtain ⟨k1, k2, -⟩ := hcb.2.2 hc
  have hk := kindsOK_of hM h.GL hO
  obtain ⟨t1, t2, -⟩ := tk_sum hk k1.1 (by rw [k2]; exact hc) (M 0 9).toNat (by omega)
  rw [show (((M 0 9).toNat : Nat) : Int) = M 0 9 by omega, FW_n] at t1 t2
  have c1 : cel (gQ g r (chL M g o r).2) r 1 = cel g r 1 := by rw [cel_gQ _ _ _ _ _ (by omega), if_neg (by omega), if_neg (by omega)]
  have p1 := (plN_1 (gQ g r (chL M g o r).2) r o (tk (M 0 9) o (M 2) (stM M g) (chS M g o r)) hr.1 (RG.q ⟨hr.1, hr.1⟩ (by omega) (h.1.1 r hr.1 (by omega))) (M 0 9).toNat (fun q a b => ⟨by have := hO.1 q a (by omega); omega, (l1 q a (by omega)).1⟩) (fun q a b => by rw [c1]; exact l2 q a (by omega))).1
  unfold gLock
  rw [cel_pu _ _ _ _ _ _ (by omega), if_neg (by omega), p1, c1, show (((M 0 9).toNat : Nat) : Int) = M 0 9 by omega]
  split at t1
  · rename_i z
    rw [if_pos z] at t2
    omega
  · omega
theorem a_lock (h : LwD C0 N0 n pl sp tv cap c A J M g w d q) (hn : n ≤ 590) (hro : RO C0 N0 n cap c 100 6500) (sc : Nat × (Nat → Int32)) (hs : sc.1 < 2147483648) (hr : 0 ≤ r ∧ r < M 0 3) (hq : q ≤ 99990) : ActR C0 N0 n pl sp tv cap w d c (q + 6) (fB11 sc 0 w d (ii r) (CW c A J)) := by
  have hM := h.1.li.1
  have hG := h.1.li.2.2.2
  have h38 := hM.1.2.1
  have h39 := hM.1.2.2.2.2.2.2.2
  have h4 := h.1.2.2.2.2.1
  have hl := h.1.2.1.1
  have h0 := h.1.2.1.2
  have hB : 0 ≤ Bn n ∧ Bn n ≤ 300000000 := by unfold Bn; omega
  have q1 := h.2.2.2.1
  have q2 := h.2.2.2.2.1
  have q3 := h.2.2.2.2.2.1
  have q4 := h.2.2.2.2.2.2
  have hgr := hG.1.1 r hr.1 (by omega)
  have b0 := hgr.1
  have b1 := hgr.2.1
  have b2 := hgr.2.2.2.2.1
  have b3 := hgr.2.2.2.2.2.1
  have b4 := hgr.2.2.2.2.2.2
  have hgb := gapM_b hM hgr
  have hW := h.1.2.2.1.1
  have hR := h.1.2.2.1.2
  obtain ⟨⟨w27, w28, w29, w30, w31⟩, wB, wP⟩ := hR.2.2.2.1 r hr.1 hr.2
  have hO := h.ord
  have h37 := h.1.1.2.2.2.1
  have h120 := h.1.2.2.2.2.2
  have hw := h.1.2.2.2.1
  have hpl := h.plE
  obtain ⟨c1, D, J1, e1, ⟨ex, ez⟩, ⟨fA, fJ⟩, hn1, hy1⟩ := n_lock (J := J) hW hR hM hG h4 h120 hO h37 hr hw.2 (by omega)
  have le1 : c.2.2.1 ≤ c1.2.2.1 ∧ c.2.2.2.1 ≤ c1.2.2.2.1 ∧ c.2.2.2.2 ≤ c1.2.2.2.2 := ⟨ex.1, ez.2.1.1, ez.2.2.1⟩
  by_cases y : (chL M g (A (pl + 3)) r).1 < 1000000
  · rw [if_pos y] at e1
    have hcb := (chL_b (o := A (pl + 3)) hM (hG.need hM hr).1).1
    have el := fun (z : Int) (hz : 0 < z ∧ z < 6) => gLock_n hM hG h37 hO hr y z hz
    have e11 := gLock_1 hM hG hO hr y
    obtain ⟨A2, J2, M2, e2, h2, kp⟩ := h.both (q' := q + 6) (c1 := c1) (A1 := D) (J1 := J1) (k := 24) (m := 120) ⟨ex, ez, fA, fJ⟩ (by omega) (hy1 y) (fun hI eo => by
      have := d_lock hI hl h0 (by omega) r hr (by rw [eo]; exact y)
      rw [eo] at this
      exact this) (by rw [el 1 (by omega), el 2 (by omega)]; omega) (by omega)
    have v1 := (h2.1.2.2.1.2.2.2.2.1 r hr.1 (by rw [kp.1 3 (by omega) (by omega)]; exact hr.2)).1.2.1
    have hW2 := h2.1.2.2.1.1
    rw [e11] at v1
    refine ⟨c1, A2, J2, M2, _, ?_, h2, by omega⟩
    rw [fB11, wdR10 hW, wdA28 hW r _ (by omega), w28, wdV hW, e1, k_Cl le1, q_I, if_neg (by decide), e2, wdR10 hW2, wdA28 hW2 r _ (by omega), v1, ii_sub, if_pos (by rw [show cel g r 1 + (chL M g (A (pl + 3)) r).1 - cel g r 1 = (chL M g (A (pl + 3)) r).1 by omega]), rZ_1]
  · rw [if_neg y] at e1
    have x1 : LX 24 120 c c1 A D J J1 := ⟨ex, ez, fun b z hb _ => hn1 y b z hb, fun b j hb _ => fJ b j hb⟩
    have h1 := h.lx x1 (by omega)
    have eo : D (pl + 3) = A (pl + 3) := funext fun z => hn1 y _ z (by omega)
    obtain ⟨c3, A3, J3, e3, x3⟩ := n_th_lock h1.1 (by omega) r (i0 := 0) rfl rfl nCode3 (fun c4 A4 J4 h4 s => d_lockN h4.1 h4.2.1.1 h4.2.1.2 r hr (by rw [show A4 (pl + 3) = A (pl + 3) from (funext s).trans eo]; exact y))
    have x4 := x1.trans x3
    refine ⟨c3, A3, J3, M, g, ?_, ((h1.lx x3 (by omega)).n1).mono (by omega), by have := x4.gro; omega⟩
    rw [fB11, wdR10 hW, wdA28 hW r _ (by omega), w28, wdV hW, e1, k_Cl le1, q_I, if_pos ii_0, e3, if_pos ii_3, rZ_1]
theorem a_relock (h : LwD C0 N0 n pl sp tv cap c A J M g w d q) (hn : n ≤ 590) (hro : RO C0 N0 n cap c 100 6500) (sc : Nat × (Nat → Int32)) (hs : sc.1 < 2147483648) (hr : 0 ≤ r ∧ r < M 0 3) (hq : q ≤ 99990) : ActR C0 N0 n pl sp tv cap w d c (q + 6) (fB14 sc 0 w d (ii r) (CW c A J)) := by
  have hM := h.1.li.1
  have hG := h.1.li.2.2.2
  have h38 := hM.1.2.1
  have h39 := hM.1.2.2.2.2.2.2.2
  have h4 := h.1.2.2.2.2.1
  have hl := h.1.2.1.1
  have h0 := h.1.2.1.2
  have hB : 0 ≤ Bn n ∧ Bn n ≤ 300000000 := by unfold Bn; omega
  have q1 := h.2.2.2.1
  have q2 := h.2.2.2.2.1
  have q3 := h.2.2.2.2.2.1
  have q4 := h.2.2.2.2.2.2
  have hgr := hG.1.1 r hr.1 (by omega)
  have b0 := hgr.1
  have b1 := hgr.2.1
  have b2 := hgr.2.2.2.2.1
  have b3 := hgr.2.2.2.2.2.1
  have b4 := hgr.2.2.2.2.2.2
  have hgb := gapM_b hM hgr
  have hW := h.1.2.2.1.1
  have hR := h.1.2.2.1.2
  obtain ⟨⟨w27, w28, w29, w30, w31⟩, wB, wP⟩ := hR.2.2.2.1 r hr.1 hr.2
  have hO := h.ord
  have h37 := h.1.1.2.2.2.1
  have h120 := h.1.2.2.2.2.2
  have hw := h.1.2.2.2.1
  have hpl := h.plE
  obtain ⟨v, hv⟩ : ∃ v, v = c.2.2.1 := ⟨_, rfl⟩
  have ex0 : exc c (nwC c 13 16) := exc.new _ _ _
  have R0 : WR w (nwA c A) M (A (pl + 3)) g := hR.fr (fun b z hb => if_neg (by unfold inW at hb; omega)) h38.2
  obtain ⟨c1, A1, J1, e1, hWv, hRv, z1, ⟨f1, f2⟩, f3, f4⟩ := n_copy (J := nwJ c J) (v := v) (hW.x ex0) R0 hM hG h4 (by rw [hv]; exact ⟨Nat.lt_succ_self _, if_pos rfl⟩) (by rw [hv]; rfl) (by omega) (by omega)
  have y1 : (nwC c 13 16).2.2.1 = v + 1 := by rw [hv]; rfl
  have y2 : (nwC c 13 16).2.2.2.1 = c.2.2.2.1 + 1 := rfl
  have y3 : (nwC c 13 16).2.2.2.2 = c.2.2.2.2 + 16 := rfl
  have ex1 : exc c c1 := ⟨by omega, fun a p => (f1 a (by omega)).trans (ex0.2.1 a p), fun a j p => (f2 a j (by omega)).trans (ex0.2.2 a j p)⟩
  have x1 : LX 32 6016 c c1 A A1 J J1 := ⟨ex1, by omega, fun b z hb _ => (f3 b z (by omega)).trans (if_neg (by omega)), fun b j hb _ => (f4 b j (by omega)).trans (if_neg (by omega))⟩
  have le1 : (nwC c 13 16).2.2.1 ≤ c1.2.2.1 ∧ (nwC c 13 16).2.2.2.1 ≤ c1.2.2.2.1 ∧ (nwC c 13 16).2.2.2.2 ≤ c1.2.2.2.2 := by omega
  obtain ⟨A2, e2, hRv2, hF2⟩ := n_unlock (J := J1) hWv hRv hM hG h4 hr
  have hGe := hG.emp hM hr hB.1
  obtain ⟨c3, D3, J3, e3, ⟨ex3, ez3⟩, ⟨fA3, fJ3⟩, hn3, hy3⟩ := n_lock (J := J1) hWv hRv2 hM hGe h4 h120 hO h37 hr (by omega) (by omega)
  have le3 : c1.2.2.1 ≤ c3.2.2.1 ∧ c1.2.2.2.1 ≤ c3.2.2.2.1 ∧ c1.2.2.2.2 ≤ c3.2.2.2.2 := ⟨ex3.1, ez3.2.1.1, ez3.2.2.1⟩
  have x3 : LX 56 6136 c c3 A D3 J J3 := ⟨ex1.trans ex3, by omega, fun b z hb _ => ((fA3 b z (by omega) (by unfold inW; omega)).trans (hF2 b z (by unfold inW; omega))).trans ((f3 b z (by omega)).trans (if_neg (by omega))), fun b j hb _ => (fJ3 b j (by omega)).trans ((f4 b j (by omega)).trans (if_neg (by omega)))⟩
  have h3 := h.lx x3 (by omega)
  have eo : D3 (pl + 3) = A (pl + 3) := funext fun z => x3.2.2.1 _ z (by omega) (fun y => by have := scC_lt y; omega)
  have st : ∀ K : Int32 → AS → Option AR, nO (CW c A J) 13 16 (fun q49 s50 => cS s50 (fX19_init_ q49 w s50) (qV (fun s51 => cV s51 q49 13 (fX19_unlock q49 (ii r) s51) (qI (fun v52 s53 => cV s53 q49 13 (fX19_lock q49 (ii r) s53) (qI K)))))) = K (ii (if (chL M (gEmp g r) (A (pl + 3)) r).1 < 1000000 then 1 else 0)) (CW c3 D3 J3) := fun K => by
    rw [k_nO _ (by omega), ← hv, e1, k_Cl le1, q_V, wdV hWv, e2, k_C, q_I, wdV hWv, e3, k_Cl le3, q_I]
  rw [fB14, st]
  by_cases y : (chL M (gEmp g r) (A (pl + 3)) r).1 < 1000000
  · rw [if_pos y, if_neg (by decide)]
    have hW3 := h3.1.2.2.1.1
    have hR3 := h3.1.2.2.1.2
    rw [eo] at hR3
    obtain ⟨A4, e4, hR4, hF4⟩ := n_unlock (J := J3) hW3 hR3 hM hG h4 hr
    obtain ⟨c5, D5, J5, e5, ⟨ex5, ez5⟩, ⟨fA5, fJ5⟩, hn5, hy5⟩ := n_lock (J := J3) hW3 hR4 hM hGe h4 h120 hO h37 hr (by omega) (by omega)
    have le5 : c3.2.2.1 ≤ c5.2.2.1 ∧ c3.2.2.2.1 ≤ c5.2.2.2.1 ∧ c3.2.2.2.2 ≤ c5.2.2.2.2 := ⟨ex5.1, ez5.2.1.1, ez5.2.2.1⟩
    rw [if_pos y] at e5
    have hcb := (chL_b (o := A (pl + 3)) hM (hGe.need hM hr).1).1
    have ele : ∀ z, 0 < z → z < 6 → gEmp g r z = g z := fun z a b => by rw [lo_gEmp g r z ⟨hr.1, by omega⟩, if_neg (by omega), if_neg (by omega)]
    have el := fun (z : Int) (hz : 0 < z ∧ z < 6) => (gLock_n hM hGe h37 hO hr y z hz).trans (ele z hz.1 hz.2)
    have e11 := gLock_1 hM hGe hO hr y
    rw [cel_gEmp _ _ _ _ (by omega), if_pos (by omega)] at e11
    obtain ⟨A6, J6, M6, e6, h6, kp⟩ := h3.both (q' := q + 6) (c1 := c5) (A1 := D5) (J1 := J5) (k := 24) (m := 120) ⟨ex5, ez5, fun b z hb hb2 => (fA5 b z hb hb2).trans (hF4 b z hb2), fJ5⟩ (by omega) (by rw [eo]; exact hy5 y) (fun hI eo2 => by
      have eo3 := eo2.trans eo
      have := d_relock hI hl h0 (by omega) r hr (by rw [eo3]; exact y)
      rw [eo3] at this
      exact this) (by rw [el 1 (by omega), el 2 (by omega)]; omega) (by omega)
    have v1 := (h6.1.2.2.1.2.2.2.2.1 r hr.1 (by rw [kp.1 3 (by omega) (by omega)]; exact hr.2)).1.2.1
    have hW6 := h6.1.2.2.1.1
    rw [e11] at v1
    have g3 := x3.gro
    refine ⟨c5, A6, J6, M6, _, ?_, h6, by omega⟩
    rw [wdV hW3, e4, k_C, q_I, wdV hW3, e5, k_Cl le5, q_I, if_neg (by decide), e6, wdR10 hW6, wdA28 hW6 r _ (by omega), v1, if_pos (by rw [show 0 + (chL M (gEmp g r) (A (pl + 3)) r).1 = (chL M (gEmp g r) (A (pl + 3)) r).1 by omega]), rZ_1]
  · rw [if_neg y, if_pos ii_0]
    obtain ⟨c4, A4, J4, e4, x4⟩ := n_th_relock h3.1 (by omega) r (i0 := 0) rfl rfl nCode3 (fun c4 A4 J4 h4 s => d_relockN h4.1 h4.2.1.1 h4.2.1.2 r hr (by rw [show A4 (pl + 3) = A (pl + 3) from (funext s).trans eo]; exact y))
    have x5 := x3.trans x4
    refine ⟨c4, A4, J4, M, g, ?_, ((h3.lx x4 (by omega)).n1).mono (by omega), by have := x5.gro; omega⟩
    rw [e4, if_pos ii_3, rZ_1]
theorem n_act (h : LwD C0 N0 n pl sp tv cap c A J M g w d q) (hn : n ≤ 590) (hro : RO C0 N0 n cap c 100 6500) (sc : Nat × (Nat → Int32)) (hs : sc.1 < 2147483648) (hq : q ≤ 99980) : ActR C0 N0 n pl sp tv cap w d c (q + 8) (fL_act sc 0 w d (CW c A J)) := by
  have hM := h.1.li.1
  have hG := h.1.li.2.2.2
  have h38 := hM.1.2.1
  have h39 := hM.1.2.2.2.2.2.2.2
  have h4 := h.1.2.2.2.2.1
  have hl := h.1.2.1.1
  have h0 := h.1.2.1.2
  have hB : 0 ≤ Bn n ∧ Bn n ≤ 300000000 := by unfold Bn; omega
  have q1 := h.2.2.2.1
  have q2 := h.2.2.2.2.1
  have q3 := h.2.2.2.2.2.1
  have q4 := h.2.2.2.2.2.2
  obtain ⟨v, A1, hv, e1, h1⟩ := h.draw sc hs 0 16 (by omega) (by omega) (x := 0) (y := 16) rfl rfl
  obtain ⟨r, A2, hr, e2, h2⟩ := h1.draw sc hs 0 (M 0 3 - 1) (by omega) (by omega) (x := 0) rfl rfl
  have hr2 : 0 ≤ r ∧ r < M 0 3 := by omega
  have hW := h1.1.2.2.1.1
  have s1 := h1.1.2.2.1.2.1.1.2.1
  have e8 : q + 8 = q + 1 + 1 + 6 := by omega
  rw [act_cut, e1, wdR1 hW, wd3 hW 1 1 rfl (by omega), s1, ii_p, e2, e8]
  rcases (show v = 0 ∨ v = 1 ∨ v = 2 ∨ v = 3 ∨ v = 4 ∨ v = 5 ∨ v = 6 ∨ v = 7 ∨ v = 8 ∨ v = 9 ∨ v = 10 ∨ v = 11 ∨ v = 12 ∨ v = 13 ∨ v = 14 ∨ v = 15 ∨ v = 16 by omega) with rfl | rfl | rfl | rfl | rfl | rfl | rfl | rfl | rfl | rfl | rfl | rfl | rfl | rfl | rfl | rfl | rfl
  · rw [if_neg (by decide)]
    exact a_print h2 hn hro sc hs hr2 (by omega)
  · rw [if_neg (by decide)]
    exact a_print h2 hn hro sc hs hr2 (by omega)
  · rw [if_pos (by decide), if_pos (by decide)]
    exact a_rest h2 hn hro sc hs hr2 (by omega)
  · rw [if_pos (by decide), if_neg (by decide), if_neg (by decide)]
    exact a_place h2 hn hro sc hs hr2 (by omega)
  · rw [if_pos (by decide), if_neg (by decide), if_neg (by decide)]
    exact a_place h2 hn hro sc hs hr2 (by omega)
  · rw [if_pos (by decide), if_neg (by decide), if_pos (by decide), if_pos (by decide)]
    exact a_lift h2 hn hro sc hs hr2 (by omega)
  · rw [if_pos (by decide), if_neg (by decide), if_pos (by decide), if_neg (by decide), if_neg (by decide)]
    exact a_put h2 hn hro sc hs hr2 (by omega)
  · rw [if_pos (by decide), if_neg (by decide), if_pos (by decide), if_neg (by decide), if_neg (by decide)]
    exact a_put h2 hn hro sc hs hr2 (by omega)
  · rw [if_pos (by decide), if_neg (by decide), if_pos (by decide), if_neg (by decide), if_pos (by decide), if_pos (by decide)]
    exact a_take h2 hn hro sc hs hr2 (by omega)
  · rw [if_pos (by decide), if_neg (by decide), if_pos (by decide), if_neg (by decide), if_pos (by decide), if_neg (by decide), if_pos (by decide)]
    exact a_quoin h2 hn hro sc hs hr2 (by omega)
  · rw [if_pos (by decide), if_neg (by decide), if_pos (by decide), if_neg (by decide), if_pos (by decide), if_neg (by decide), if_neg (by decide), if_pos (by decide)]
    exact a_open h2 hn hro sc hs hr2 (by omega)
  · rw [if_pos (by decide), if_neg (by decide), if_pos (by decide), if_neg (by decide), if_pos (by decide), if_neg (by decide), if_neg (by decide), if_neg (by decide), if_neg (by decide)]
    exact a_lock h2 hn hro sc hs hr2 (by omega)
  · rw [if_pos (by decide), if_neg (by decide), if_pos (by decide), if_neg (by decide), if_pos (by decide), if_neg (by decide), if_neg (by decide), if_neg (by decide), if_neg (by decide)]
    exact a_lock h2 hn hro sc hs hr2 (by omega)
  · rw [if_pos (by decide), if_neg (by decide), if_pos (by decide), if_neg (by decide), if_pos (by decide), if_neg (by decide), if_neg (by decide), if_neg (by decide), if_pos (by decide), if_pos (by decide)]
    exact a_unlock h2 hn hro sc hs hr2 (by omega)
  · rw [if_pos (by decide), if_neg (by decide), if_pos (by decide), if_neg (by decide), if_pos (by decide), if_neg (by decide), if_neg (by decide), if_neg (by decide), if_pos (by decide), if_neg (by decide), if_pos (by decide)]
    exact a_relock h2 hn hro sc hs hr2 (by omega)
  · rw [if_pos (by decide), if_neg (by decide), if_pos (by decide), if_neg (by decide), if_pos (by decide), if_neg (by decide), if_neg (by decide), if_neg (by decide), if_pos (by decide), if_neg (by decide), if_neg (by decide), if_pos (by decide)]
    exact a_tighten h2 hn hro sc hs hr2 (by omega)
  · rw [if_pos (by decide), if_neg (by decide), if_pos (by decide), if_neg (by decide), if_pos (by decide), if_neg (by decide), if_neg (by decide), if_neg (by decide), if_pos (by decide), if_neg (by decide), if_neg (by decide), if_neg (by decide)]
    exact a_buy h2 hn hro sc hs hr2 (by omega)
end AC4
