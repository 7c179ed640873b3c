/-! THE LAW: is the chase like the World? a row -/
/-- the law's state: class, World, content -/
def LwS (C0 N0 n pl sp tv cap : Nat) (c : CC) (A : AI) (J : JI) (M : AI) (g o : Int → Int) (w : Nat) : Prop := Inv C0 N0 n pl sp tv cap c A J M g ∧ (M 0 1 = 1 ∧ M 0 0 = 0) ∧ (isWorld c w ∧ WR w A M o g) ∧ (455 ≤ w ∧ w + 32 ≤ c.2.2.1) ∧ M 0 9 ≤ 4 ∧ M 0 2 ≤ 120
section LIK
variable {C0 N0 n : Nat} {c c' c2 : CC} {A A' A2 : AI} {J J' J2 : JI} {M : AI} {g o : Int → Int} {pl sp tv cap k m w : Nat}
theorem LwS.lx (h : LwS C0 N0 n pl sp tv cap c A J M g o w) (hx : LX k m c c' A A' J J') (hr : RO C0 N0 n cap c k m) : LwS C0 N0 n pl sp tv cap c' A' J' M g o w := by
  obtain ⟨hI, hl, ⟨hW, hR⟩, hw, h4⟩ := h
  have h38 := (hI.li hl.1).1.1.2.1
  refine ⟨hI.lx' hx hr, hl, ⟨hW.x hx.1, hR.fr (fun b z q => hx.2.2.1 b z (by unfold inW at q; omega) (fun y => ?_)) h38.2⟩, ⟨hw.1, by have := hx.1.1; omega⟩, h4⟩
  have := scC_lt y
  unfold inW at q
  omega
/-- the nine properties of a row, as the World has them -/
theorem n_its (h : LwS C0 N0 n pl sp tv cap c A J M g o w) (r : Int) (hr : 0 ≤ r ∧ r < M 0 3) (hro : RO C0 N0 n cap c 1 9) (x2 x3 x4 : Int32) (r10 : _) : ∃ A', fL_isLike_36 r10 0 w x2 x3 x4 (ii r) (ii (if cel g r 2 = -1 then 0 else 1)) (CW c A J) = fL_isLike_152 r10 FU 0 w x2 x3 x4 (ii r) c.2.2.1 0 (CW (nwC c 100 9) A' (nwJ c J)) ∧ LX 1 9 c (nwC c 100 9) A A' J (nwJ c J) ∧ ∀ k : Int, 0 ≤ k → k < 9 → A' c.2.2.1 k = rwv M g r k := by
  obtain ⟨hI, hl, ⟨hW, hR⟩, hw, h4, h120⟩ := h
  obtain ⟨hM, hP, hS, hG⟩ := hI.li hl.1
  have h38 := hM.1.2.1
  have hx0 := LX.new c A J 100 9
  have o1 : okc (nwC c 100 9) c.2.2.1 100 9 := ⟨Nat.lt_succ_self _, if_pos rfl⟩
  have W1 := hW.x hx0.1
  have wf : ∀ E : AI, (∀ (b : Nat) (z : Int), b < c.2.2.1 → E b z = A b z) → WR w E M o g := fun E hE => hR.fr (fun b z q => hE b z (by unfold inW at q; omega)) h38.2
  have f0 : ∀ (b : Nat) (z : Int), b < c.2.2.1 → nwA c A b z = A b z := fun b z q => if_neg (by omega)
  have hgr := hG.1.1 r hr.1 (by omega)
  have b2 := hgr.2.2.2.2.1
  obtain ⟨z, hz⟩ : ∃ z, z = c.2.2.1 := ⟨_, rfl⟩
  have hnA : ∀ k, nA (CW c A J) 100 9 k = k z (CW (nwC c 100 9) (nwA c A) (nwJ c J)) := fun k => by rw [hz]; exact k_nA (n := 9) k (by omega) ⟨rfl, by decide, by omega⟩
  rw [← hz] at o1 f0 ⊢
  obtain ⟨E1, hE1⟩ : ∃ E, E = up (nwA c A) z 0 (cel g r 0) := ⟨_, rfl⟩
  have f1 : ∀ (b : Nat) (y : Int), b < z → E1 b y = A b y := fun b y q => by rw [hE1, up_n _ _ _ _ _ _ (by omega)]; exact f0 b y q
  obtain ⟨E2, hE2⟩ : ∃ E, E = up E1 z 1 (cel g r 1) := ⟨_, rfl⟩
  have f2 : ∀ (b : Nat) (y : Int), b < z → E2 b y = A b y := fun b y q => by rw [hE2, up_n _ _ _ _ _ _ (by omega)]; exact f1 b y q
  obtain ⟨E3, hE3⟩ : ∃ E, E = up E2 z 2 (M 0 2 - gapM M g r) := ⟨_, rfl⟩
  have f3 : ∀ (b : Nat) (y : Int), b < z → E3 b y = A b y := fun b y q => by rw [hE3, up_n _ _ _ _ _ _ (by omega)]; exact f2 b y q
  obtain ⟨E4, hE4⟩ : ∃ E, E = up E3 z 3 (gapM M g r) := ⟨_, rfl⟩
  have f4 : ∀ (b : Nat) (y : Int), b < z → E4 b y = A b y := fun b y q => by rw [hE4, up_n _ _ _ _ _ _ (by omega)]; exact f3 b y q
  obtain ⟨E5, hE5⟩ : ∃ E, E = up E4 z 4 (cel g r 2) := ⟨_, rfl⟩
  have f5 : ∀ (b : Nat) (y : Int), b < z → E5 b y = A b y := fun b y q => by rw [hE5, up_n _ _ _ _ _ _ (by omega)]; exact f4 b y q
  obtain ⟨E6, hE6⟩ : ∃ E, E = up E5 z 5 (cel g r 4) := ⟨_, rfl⟩
  have f6 : ∀ (b : Nat) (y : Int), b < z → E6 b y = A b y := fun b y q => by rw [hE6, up_n _ _ _ _ _ _ (by omega)]; exact f5 b y q
  obtain ⟨E7, hE7⟩ : ∃ E, E = up E6 z 6 (suW (M 1) g r) := ⟨_, rfl⟩
  have f7 : ∀ (b : Nat) (y : Int), b < z → E7 b y = A b y := fun b y q => by rw [hE7, up_n _ _ _ _ _ _ (by omega)]; exact f6 b y q
  obtain ⟨E8, hE8⟩ : ∃ E, E = up E7 z 7 (suB g r) := ⟨_, rfl⟩
  have f8 : ∀ (b : Nat) (y : Int), b < z → E8 b y = A b y := fun b y q => by rw [hE8, up_n _ _ _ _ _ _ (by omega)]; exact f7 b y q
  obtain ⟨E9, hE9⟩ : ∃ E, E = up E8 z 8 ((if cel g r 2 = -1 then -1 else cel g r 3)) := ⟨_, rfl⟩
  have f9 : ∀ (b : Nat) (y : Int), b < z → E9 b y = A b y := fun b y q => by rw [hE9, up_n _ _ _ _ _ _ (by omega)]; exact f8 b y q
  have R0 := wf (nwA c A) (by rw [← hz]; exact f0)
  have R1 := wf E1 (by rw [← hz]; exact f1)
  have R2 := wf E2 (by rw [← hz]; exact f2)
  have R3 := wf E3 (by rw [← hz]; exact f3)
  have R4 := wf E4 (by rw [← hz]; exact f4)
  have R5 := wf E5 (by rw [← hz]; exact f5)
  have R6 := wf E6 (by rw [← hz]; exact f6)
  have R7 := wf E7 (by rw [← hz]; exact f7)
  have R8 := wf E8 (by rw [← hz]; exact f8)
  have p0 := (R0.2.2.2.1 r hr.1 hr.2).1.1
  have p1 := (R1.2.2.2.1 r hr.1 hr.2).1.2.1
  have p2 := R2.1.1.1
  have p4 := (R4.2.2.2.1 r hr.1 hr.2).1.2.2.1
  have p5 := (R5.2.2.2.1 r hr.1 hr.2).1.2.2.2.2
  have p8 := (R8.2.2.2.1 r hr.1 hr.2).1.2.2.2.1
  have q2 := n_gap (J := nwJ c J) W1 R2 hM hG h4 hr
  have q3 := n_gap (J := nwJ c J) W1 R3 hM hG h4 hr
  have q6 := n_wood (J := nwJ c J) W1 R6 hM hG h4 hr
  have q7 := n_blocksIn (J := nwJ c J) W1 R7 hM hG hr
  refine ⟨E9, ?_, ⟨hx0.1, hx0.2.1, fun b y q _ => f9 b y (by omega), hx0.2.2.2⟩, fun k a b => ?_⟩
  · have lits : (0 : Int32) = ii 0 ∧ (1 : Int32) = ii 1 ∧ (2 : Int32) = ii 2 ∧ (3 : Int32) = ii 3 ∧ (4 : Int32) = ii 4 ∧ (5 : Int32) = ii 5 ∧ (6 : Int32) = ii 6 ∧ (7 : Int32) = ii 7 ∧ (8 : Int32) = ii 8 := ⟨rfl, rfl, rfl, rfl, rfl, rfl, rfl, rfl, rfl⟩
    obtain ⟨l0, l1, l2, l3, l4, l5, l6, l7, l8⟩ := lits
    have u : ∀ (E : AI) (i v : Int) (k : AS → Option AR), 0 ≤ i ∧ i < 9 → uI (CW (nwC c 100 9) E (nwJ c J)) z (ii i) (ii v) k = k (CW (nwC c 100 9) (up E z i v) (nwJ c J)) := fun E i v k hi => k_uI o1 i v (by omega) k
    rw [fL_isLike_36, hnA, wdR9 W1, wdA27 W1 r _ (by omega), p0, l0, u _ 0 _ _ (by omega), ← hE1, wdR10 W1, wdA28 W1 r _ (by omega), p1, l1, u _ 1 _ _ (by omega), ← hE2, wdR1 W1, wdA3 W1 0 _ (by omega), p2, wdV W1, q2, k_C, q_I, ii_sub, l2, u _ 2 _ _ (by omega), ← hE3, wdV W1, q3, k_C, q_I, l3, u _ 3 _ _ (by omega), ← hE4, wdR11 W1, wdA29 W1 r _ (by omega), p4, l4, u _ 4 _ _ (by omega), ← hE5, wdR13 W1, wdA31 W1 r _ (by omega), p5, l5, u _ 5 _ _ (by omega), ← hE6, wdV W1, q6, k_C, q_I, l6, u _ 6 _ _ (by omega), ← hE7, wdV W1, q7, k_C, q_I, l7, u _ 7 _ _ (by omega), ← hE8]
    by_cases y : cel g r 2 = -1
    · rw [if_pos y] at hE9
      rw [if_pos y, if_pos rfl, fL_isLike_146, l8, show -(ii 1) = ii (-1) from rfl, u _ 8 _ _ (by omega), ← hE9]
      rfl
    · rw [if_neg y] at hE9
      rw [if_neg y, if_neg (by decide), wdR12 W1, wdA30 W1 r _ (by omega), p8 y, fL_isLike_146, l8, u _ 8 _ _ (by omega), ← hE9]
      rfl
  · have gm : M 0 2 - gapM M g r = suB g r + uQ (M 0 4) g r + suP (M 2) g r := by unfold gapM; omega
    rcases (show k = 0 ∨ k = 1 ∨ k = 2 ∨ k = 3 ∨ k = 4 ∨ k = 5 ∨ k = 6 ∨ k = 7 ∨ k = 8 by omega) with rfl | rfl | rfl | rfl | rfl | rfl | rfl | rfl | rfl
    · rw [hE9, up_n _ _ _ _ _ _ (by omega), hE8, up_n _ _ _ _ _ _ (by omega), hE7, up_n _ _ _ _ _ _ (by omega), hE6, up_n _ _ _ _ _ _ (by omega), hE5, up_n _ _ _ _ _ _ (by omega), hE4, up_n _ _ _ _ _ _ (by omega), hE3, up_n _ _ _ _ _ _ (by omega), hE2, up_n _ _ _ _ _ _ (by omega), hE1, up_s]
      rfl
    · rw [hE9, up_n _ _ _ _ _ _ (by omega), hE8, up_n _ _ _ _ _ _ (by omega), hE7, up_n _ _ _ _ _ _ (by omega), hE6, up_n _ _ _ _ _ _ (by omega), hE5, up_n _ _ _ _ _ _ (by omega), hE4, up_n _ _ _ _ _ _ (by omega), hE3, up_n _ _ _ _ _ _ (by omega), hE2, up_s]
      rfl
    · rw [hE9, up_n _ _ _ _ _ _ (by omega), hE8, up_n _ _ _ _ _ _ (by omega), hE7, up_n _ _ _ _ _ _ (by omega), hE6, up_n _ _ _ _ _ _ (by omega), hE5, up_n _ _ _ _ _ _ (by omega), hE4, up_n _ _ _ _ _ _ (by omega), hE3, up_s]
      exact gm
    · rw [hE9, up_n _ _ _ _ _ _ (by omega), hE8, up_n _ _ _ _ _ _ (by omega), hE7, up_n _ _ _ _ _ _ (by omega), hE6, up_n _ _ _ _ _ _ (by omega), hE5, up_n _ _ _ _ _ _ (by omega), hE4, up_s]
      rfl
    · rw [hE9, up_n _ _ _ _ _ _ (by omega), hE8, up_n _ _ _ _ _ _ (by omega), hE7, up_n _ _ _ _ _ _ (by omega), hE6, up_n _ _ _ _ _ _ (by omega), hE5, up_s]
      rfl
    · rw [hE9, up_n _ _ _ _ _ _ (by omega), hE8, up_n _ _ _ _ _ _ (by omega), hE7, up_n _ _ _ _ _ _ (by omega), hE6, up_s]
      rfl
    · rw [hE9, up_n _ _ _ _ _ _ (by omega), hE8, up_n _ _ _ _ _ _ (by omega), hE7, up_s]
      rfl
    · rw [hE9, up_n _ _ _ _ _ _ (by omega), hE8, up_s]
      rfl
    · rw [hE9, up_s]
      rfl
end LIK
