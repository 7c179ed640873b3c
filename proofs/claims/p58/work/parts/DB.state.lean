/-! THE LAW: a change of both. The state, draws and all -/
/-- the World's cells are other, and new ones -/
def WX (k m : Nat) (w : Nat) (c c' : CC) (A A' : AI) (J J' : JI) : Prop := exc c c' ∧ (c'.2.2.1 ≤ c.2.2.1 + k ∧ (c.2.2.2.1 ≤ c'.2.2.2.1 ∧ c'.2.2.2.1 ≤ c.2.2.2.1 + k) ∧ c.2.2.2.2 ≤ c'.2.2.2.2 ∧ c'.2.2.2.2 ≤ c.2.2.2.2 + m) ∧ (∀ (b : Nat) (z : Int), b < c.2.2.1 → ¬ inW w b → A' b z = A b z) ∧ ∀ b j : Nat, b < c.2.2.1 → J' b j = J b j
/-- the law's state: class, World, draws -/
def LwD (C0 N0 n pl sp tv cap : Nat) (c : CC) (A : AI) (J : JI) (M : AI) (g : Int → Int) (w d : Nat) (q : Int) : Prop := LwS C0 N0 n pl sp tv cap c A J M g (A (pl + 3)) w ∧ (isDraws c d ∧ 455 ≤ d ∧ (d < w ∨ w + 32 ≤ d)) ∧ (tv < w ∨ w + 32 ≤ tv) ∧ (0 ≤ A d 1 ∧ A d 1 ≤ q) ∧ (0 ≤ g 1 ∧ g 1 ≤ q) ∧ (0 ≤ g 2 ∧ g 2 ≤ q) ∧ q ≤ 100000
section LWD
variable {C0 N0 n : Nat} {c c1 c' c2 : CC} {A A1 A' A2 : AI} {J J1 J' J2 : JI} {M M' : AI} {g g' o : Int → Int} {pl sp tv cap k m w d : Nat} {q q' v : Int} {x : Option AR}
theorem WX.same (hf : ∀ (b : Nat) (z : Int), ¬ inW w b → A' b z = A b z) : WX 0 0 w c c A A' J J := ⟨exc.refl c, by omega, fun b z _ h => hf b z h, fun _ _ _ => rfl⟩
theorem WR.kp (h : WR w A M o g) (k : KP M M') : WR w A M' o g := by
  unfold WR at h ⊢
  rw [k.2.1, k.2.2, k.1 2 (by omega) (by omega), k.1 3 (by omega) (by omega), k.1 4 (by omega) (by omega), k.1 5 (by omega) (by omega), k.1 6 (by omega) (by omega), k.1 7 (by omega) (by omega), k.1 8 (by omega) (by omega), k.1 9 (by omega) (by omega)]
  exact h
theorem LwD.plE (h : LwD C0 N0 n pl sp tv cap c A J M g w d q) : pl = 377 ∨ pl = 381 := by
  have := h.1.1.1.2.2.2.1.1
  omega
theorem LwD.ord (h : LwD C0 N0 n pl sp tv cap c A J M g w d q) : ordOK (M 1) (M 2) (M 0 9) (A (pl + 3)) := h.1.li.2.1.2.2
theorem LwD.lx (h : LwD C0 N0 n pl sp tv cap c A J M g w d q) (hx : LX k m c c' A A' J J') (hr : RO C0 N0 n cap c k m) : LwD C0 N0 n pl sp tv cap c' A' J' M g w d q := by
  have hpl := h.plE
  obtain ⟨hS, ⟨hd, hd2, hd3⟩, ht, hq⟩ := h
  have hw := hS.2.2.2.1
  have eo : A' (pl + 3) = A (pl + 3) := funext fun z => hx.2.2.1 _ z (by omega) (fun y => by have := scC_lt y; omega)
  have ed : A' d 1 = A d 1 := hx.2.2.1 _ _ hd.1.1 (fun y => by have := scC_lt y; omega)
  refine ⟨?_, ⟨hd.x hx.1, hd2, hd3⟩, ht, ?_, hq.2⟩
  · rw [eo]
    exact hS.lx hx hr
  · rw [ed]
    exact hq.1
theorem LwD.mono (h : LwD C0 N0 n pl sp tv cap c A J M g w d q) (hq : q ≤ q' ∧ q' ≤ 100000) : LwD C0 N0 n pl sp tv cap c A J M g w d q' := by
  obtain ⟨hS, hd, ht, q1, q2, q3, q4⟩ := h
  exact ⟨hS, hd, ht, by omega, by omega, by omega, hq.2⟩
theorem Inv.n1 (h : Inv C0 N0 n pl sp tv cap c A J M g) : Inv C0 N0 (n + 1) pl sp tv cap c A J M g := by
  have h2 := h.2.1.2
  exact h.scr (Nat.le_succ n) ⟨rfl, rfl, rfl⟩ (by omega) (frm.refl _ _ _) ⟨fun _ _ _ => rfl, fun _ _ _ _ => rfl⟩
theorem LwD.n1 (h : LwD C0 N0 n pl sp tv cap c A J M g w d q) : LwD C0 N0 (n + 1) pl sp tv cap c A J M g w d q := by
  obtain ⟨⟨hI, hS⟩, hd⟩ := h
  exact ⟨⟨hI.n1, hS⟩, hd⟩
theorem LwD.gap (h : LwD C0 N0 n pl sp tv cap c A J M g w d q) {r : Int} (hr : 0 ≤ r ∧ r < M 0 3) (K : Int32 → AS → Option AR) : cV (CW c A J) w 13 (fX19_gap w (ii r) (CW c A J)) (qI K) = K (ii (gapM M g r)) (CW c A J) := by
  obtain ⟨hM, hP, hS, hG⟩ := h.1.li
  rw [wdV h.1.2.2.1.1, n_gap (J := J) h.1.2.2.1.1 h.1.2.2.1.2 hM hG h.1.2.2.2.2.1 hr, k_C, q_I]
/-- a draw -/
theorem LwD.draw (h : LwD C0 N0 n pl sp tv cap c A J M g w d q) (sc : Nat × (Nat → Int32)) (hs : sc.1 < 2147483648) (lo hi : Int) (hl : (-1000 ≤ lo ∧ lo ≤ hi) ∧ hi ≤ 1000) (hq : q < 100000) {x y : Int32} (hx : x = ii lo) (hy : y = ii hi) : ∃ (v : Int) (A' : AI), (lo ≤ v ∧ v ≤ hi) ∧ (∀ K : Int32 → AS → Option AR, cV (CW c A J) d 11 (fX17_next sc d x y (CW c A J)) (qI K) = K (ii v) (CW c A' J)) ∧ LwD C0 N0 n pl sp tv cap c A' J M g w d (q + 1) := by
  have hpl := h.plE
  obtain ⟨hS, ⟨hd, hd2, hd3⟩, ht, q1, q2, q3, q4⟩ := h
  obtain ⟨v, hv, e⟩ := n_next (A := A) (J := J) hd sc hs lo hi hl (by omega)
  have hw := hS.2.2.2.1
  have htd : d ≠ tv := fun y => by
    have t1 := hS.1.1.2.2.2.2.1.2.2.1.2
    rw [← y, hd.1.2] at t1
    exact absurd (congrArg Prod.fst t1) (by decide : ¬ (11 : Nat) = 103)
  have hf : ∀ (b : Nat) (z : Int), b ≠ d → up A d 1 (A d 1 + 1) b z = A b z := fun b z hb => up_n _ _ _ _ _ _ (fun e => hb e.1)
  have eo : up A d 1 (A d 1 + 1) (pl + 3) = A (pl + 3) := funext fun z => hf _ z (by omega)
  have h38 := hS.li.1.1.2.1
  refine ⟨v, up A d 1 (A d 1 + 1), hv, fun K => ?_, ⟨?_, ⟨hd, hd2, hd3⟩, ht, ?_, by omega, by omega, by omega⟩⟩
  · rw [hx, hy, drV hd, e, k_C, q_I]
  · rw [eo]
    obtain ⟨hI, hl2, ⟨hW, hR⟩, hw2, h4⟩ := hS
    exact ⟨hI.law (exc.refl c) hI.2.1.1 hI.2.1.2 (fun b z hb _ => hf b z (by omega)) (fun _ _ _ _ => rfl) (fun z => hf tv z (fun y => htd y.symm)), hl2, ⟨hW, hR.fr (fun b z hb => hf b z (fun y => by unfold inW at hb; omega)) h38.2⟩, hw2, h4⟩
  · rw [up_s]
    omega
/-- the World first, then the class -/
theorem LwD.both (h : LwD C0 N0 n pl sp tv cap c A J M g w d q) (hx : WX k m w c c1 A A1 J J1) (hr : RO C0 N0 n cap c k m) (hR : WR w A1 M (A (pl + 3)) g') (hD : Inv C0 N0 n pl sp tv cap c1 A1 J1 M g → A1 (pl + 3) = A (pl + 3) → DCh C0 N0 n pl sp tv cap c1 A1 J1 M x v g') (hg : (0 ≤ g' 1 ∧ g' 1 ≤ q') ∧ 0 ≤ g' 2 ∧ g' 2 ≤ q') (hq : q ≤ q' ∧ q' ≤ 100000) : ∃ (A' : AI) (J' : JI) (M' : AI), (∀ K : Int32 → AS → Option AR, cV (CW c1 A1 J1) 0 10 x (qI K) = K (ii v) (CW c1 A' J')) ∧ LwD C0 N0 (n + 1) pl sp tv cap c1 A' J' M' g' w d q' ∧ KP M M' := by
  have hpl := h.plE
  obtain ⟨⟨hI, ⟨hl, h0⟩, ⟨hW, hR0⟩, hw, h4, h120⟩, ⟨hd, hd2, hd3⟩, ht, q1, q2, q3, q4⟩ := h
  obtain ⟨ex, hz, hf, hfJ⟩ := hx
  have h38 := (hI.li hl).1.1.2.1
  have htv := hI.1.2.2.2.2.1.2.2.1.1
  have hI1 : Inv C0 N0 n pl sp tv cap c1 A1 J1 M g := hI.law ex (by omega) (by omega) (fun b z hb _ => hf b z (by omega) (by unfold inW; omega)) (fun b j hb _ => hfJ b j (by omega)) (fun z => hf tv z htv (by unfold inW; omega))
  have eo : A1 (pl + 3) = A (pl + 3) := funext fun z => hf _ z (by omega) (by unfold inW; omega)
  obtain ⟨A', J', M', e1, hI2, h02, kp, f1, f2⟩ := hD hI1 eo
  have eo2 : A' (pl + 3) = A (pl + 3) := (funext fun z => f1 _ z (by omega)).trans eo
  have ed : A' d 1 = A d 1 := (f1 _ _ (by omega)).trans (hf _ _ hd.1.1 (by unfold inW; omega))
  have hl2 : M' 0 1 = 1 := (kp.1 1 (by omega) (by omega)).trans hl
  refine ⟨A', J', M', fun K => ?_, ⟨⟨hI2, ⟨hl2, h02⟩, ⟨hW.x ex, ?_⟩, ⟨hw.1, by have := ex.1; omega⟩, ?_, ?_⟩, ⟨hd.x ex, hd2, hd3⟩, ht, ?_, hg.1, hg.2, hq.2⟩, kp⟩
  · rw [lkV hI1.1, e1, k_C, q_I]
  · rw [eo2]
    exact (hR.fr (fun b z hb => f1 b z (by unfold inW at hb; omega)) h38.2).kp kp
  · rw [kp.1 9 (by omega) (by omega)]; exact h4
  · rw [kp.1 2 (by omega) (by omega)]; exact h120
  · rw [ed]; omega
end LWD
