/-! THE LAW: what a change makes of the World, by the law's own hand -/
section WAC
variable {c : CC} {A A' D : AI} {J : JI} {w : Nat} {M : AI} {o g g' : Int → Int} {r B : Int}
/-- one row is other, the stock, the quoins -/
theorem WR.one (hR : WR w A M o g) (hG : GR g) (h8 : M 0 3 ≤ 8) (r : Int) (hr : 0 ≤ r ∧ r < M 0 3)
    (e : ∀ (b : Nat) (z : Int), b ≠ w + 10 + r.toNat → b ≠ w + 19 + r.toNat → ¬ (b = w ∧ z = 15) → b ≠ w + 5 → ¬ (w + 27 ≤ b ∧ b ≤ w + 31 ∧ z = r) → A' b z = A b z)
    (l1 : ∀ z, 1 ≤ z → z < 6 → g' z = g z) (q : A' w 15 = g' 0) (l : ∀ k, 0 ≤ k → k < M 0 9 → A' (w + 5) k = g' (6 + k))
    (ce : ∀ r2 z, 0 ≤ r2 → r2 < 8 → r2 ≠ r → 0 ≤ z → z < 512 → cel g' r2 z = cel g r2 z)
    (row : (A' (w + 27) r = cel g' r 0 ∧ A' (w + 28) r = cel g' r 1 ∧ A' (w + 29) r = cel g' r 2 ∧ (cel g' r 2 ≠ -1 → A' (w + 30) r = cel g' r 3) ∧ A' (w + 31) r = cel g' r 4) ∧
      (∀ k, 0 ≤ k → k < cel g' r 0 → A' (w + 10 + r.toNat) k = cel g' r (5 + k)) ∧ ∀ k, 0 ≤ k → k < cel g' r 1 → A' (w + 19 + r.toNat) k = cel g' r (11 + k)) : WR w A' M o g' := by
  obtain ⟨hS, hKd, ⟨c0, c1, c2, c3, c4⟩, hRo, hOr⟩ := id hR
  refine hR.upd hG h8 r (fun b z x => e b z (by omega) (by omega) (by omega) (by omega) (by omega)) q l ⟨?_, ?_, ?_, ?_, ?_⟩ (fun r2 a b x => ⟨fun b p q2 => e _ _ (by omega) (by omega) (by omega) (by omega) (by omega), fun k => e _ _ (by omega) (by omega) (by omega) (by omega) (by omega), fun k => e _ _ (by omega) (by omega) (by omega) (by omega) (by omega)⟩) ce (fun _ _ => row)
  · rw [l1 1 (by omega) (by omega), e _ _ (by omega) (by omega) (by omega) (by omega) (by omega)]; exact c0
  · rw [l1 2 (by omega) (by omega), e _ _ (by omega) (by omega) (by omega) (by omega) (by omega)]; exact c1
  · rw [l1 3 (by omega) (by omega), e _ _ (by omega) (by omega) (by omega) (by omega) (by omega)]; exact c2
  · rw [l1 4 (by omega) (by omega), e _ _ (by omega) (by omega) (by omega) (by omega) (by omega)]; exact c3
  · rw [l1 5 (by omega) (by omega), e _ _ (by omega) (by omega) (by omega) (by omega) (by omega)]; exact c4
theorem WR.adds (hR : WR w A M o g) (hG : GR g) (h8 : M 0 3 ≤ 8) (h9 : M 0 9 ≤ 10) (hr : 0 ≤ r ∧ r < M 0 3) (its : Int) (h6 : cel g r 0 < 6) : WR w (up (up A (w + 10 + r.toNat) (cel g r 0) its) (w + 27) r (cel g r 0 + 1)) M o (gAdds g r its) := by
  obtain ⟨⟨hS, sK, sQ⟩, hKd, hC, hRo, hOr⟩ := id hR
  obtain ⟨⟨w27, w28, w29, w30, w31⟩, wB, wP⟩ := hRo r hr.1 hr.2
  have hgr := hG r hr.1 (by omega)
  have b0 := hgr.1
  have b1 := hgr.2.1
  have el : ∀ z, z < 16 → gAdds g r its z = g z := fun z a => lo_gAdds g r its z ⟨⟨hr.1, a⟩, b0.1⟩
  have ec := fun (r2 z : Int) (a : 0 ≤ r2) (b : 0 ≤ z ∧ z < 512) => cel_gAdds g r its r2 z ⟨⟨⟨hr.1, a⟩, b⟩, b0⟩
  refine hR.one hG h8 r hr (fun b z p1 p2 p3 p4 p5 => by rw [up_n _ _ _ _ _ _ (by omega), up_n _ _ _ _ _ _ (by omega)]) (fun z a b => el z (by omega)) ?_ (fun k a b => ?_) (fun r2 z a b q p x => ?_) ⟨⟨?_, ?_, ?_, fun q => ?_, ?_⟩, fun k a b => ?_, fun k a b => ?_⟩
  · rw [el 0 (by omega), up_n _ _ _ _ _ _ (by omega), up_n _ _ _ _ _ _ (by omega)]; exact sQ
  · rw [el (6 + k) (by omega), up_n _ _ _ _ _ _ (by omega), up_n _ _ _ _ _ _ (by omega)]; exact (hKd k a b).2.2
  · rw [ec r2 z a ⟨p, x⟩, if_neg (by omega), if_neg (by omega)]
  · rw [ec r 0 hr.1 (by omega), if_pos ⟨rfl, rfl⟩, up_s]
  · rw [ec r 1 hr.1 (by omega), if_neg (by omega), if_neg (by omega), up_n _ _ _ _ _ _ (by omega), up_n _ _ _ _ _ _ (by omega)]; exact w28
  · rw [ec r 2 hr.1 (by omega), if_neg (by omega), if_neg (by omega), up_n _ _ _ _ _ _ (by omega), up_n _ _ _ _ _ _ (by omega)]; exact w29
  · rw [ec r 2 hr.1 (by omega), if_neg (by omega), if_neg (by omega)] at q
    rw [ec r 3 hr.1 (by omega), if_neg (by omega), if_neg (by omega), up_n _ _ _ _ _ _ (by omega), up_n _ _ _ _ _ _ (by omega)]; exact w30 q
  · rw [ec r 4 hr.1 (by omega), if_neg (by omega), if_neg (by omega), up_n _ _ _ _ _ _ (by omega), up_n _ _ _ _ _ _ (by omega)]; exact w31
  · rw [ec r 0 hr.1 (by omega), if_pos ⟨rfl, rfl⟩] at b
    rw [ec r (5 + k) hr.1 (by omega), if_neg (by omega), up_n _ _ _ _ _ _ (by omega)]
    by_cases y : k = cel g r 0
    · rw [if_pos ⟨rfl, by omega⟩, y, up_s]
    · rw [if_neg (by omega), up_n _ _ _ _ _ _ (by omega)]; exact wB k a (by omega)
  · rw [ec r 1 hr.1 (by omega), if_neg (by omega), if_neg (by omega)] at b
    rw [ec r (11 + k) hr.1 (by omega), if_neg (by omega), if_neg (by omega), up_n _ _ _ _ _ _ (by omega), up_n _ _ _ _ _ _ (by omega)]; exact wP k a b
theorem WR.lift (hR : WR w A M o g) (hG : GR g) (h8 : M 0 3 ≤ 8) (h9 : M 0 9 ≤ 10) (hr : 0 ≤ r ∧ r < M 0 3) (i : Int) (hi : 0 ≤ i ∧ i < cel g r 0)
    (e : ∀ (b : Nat) (z : Int), b ≠ w + 10 + r.toNat → ¬ (b = w + 27 ∧ z = r) → A' b z = A b z) (e27 : A' (w + 27) r = cel g r 0 - 1) (eB : ∀ j, 0 ≤ j → j < cel g r 0 - 1 → A' (w + 10 + r.toNat) j = if j < i then cel g r (5 + j) else cel g r (5 + j + 1)) : WR w A' M o (gLift g r i) := by
  obtain ⟨⟨hS, sK, sQ⟩, hKd, hC, hRo, hOr⟩ := id hR
  obtain ⟨⟨w27, w28, w29, w30, w31⟩, wB, wP⟩ := hRo r hr.1 hr.2
  have hgr := hG r hr.1 (by omega)
  have b0 := hgr.1
  have b1 := hgr.2.1
  have el : ∀ z, z < 16 → gLift g r i z = g z := fun z a => lo_gLift g r i z ⟨⟨hr.1, a⟩, hi.1⟩
  have ec := fun (r2 z : Int) (a : 0 ≤ r2) (b : 0 ≤ z ∧ z < 512) => cel_gLift g r i r2 z ⟨⟨⟨hr.1, a⟩, b⟩, hi, b0.2⟩
  refine hR.one hG h8 r hr (fun b z p1 p2 p3 p4 p5 => e _ _ (by omega) (by omega)) (fun z a b => el z (by omega)) ?_ (fun k a b => ?_) (fun r2 z a b q p x => ?_) ⟨⟨?_, ?_, ?_, fun q => ?_, ?_⟩, fun k a b => ?_, fun k a b => ?_⟩
  · rw [el 0 (by omega), e _ _ (by omega) (by omega)]; exact sQ
  · rw [el (6 + k) (by omega), e _ _ (by omega) (by omega)]; exact (hKd k a b).2.2
  · rw [ec r2 z a ⟨p, x⟩, if_neg (by omega), if_neg (by omega)]
  · rw [ec r 0 hr.1 (by omega), if_pos ⟨rfl, rfl⟩]; exact e27
  · rw [ec r 1 hr.1 (by omega), if_neg (by omega), if_neg (by omega), e _ _ (by omega) (by omega)]; exact w28
  · rw [ec r 2 hr.1 (by omega), if_neg (by omega), if_neg (by omega), e _ _ (by omega) (by omega)]; exact w29
  · rw [ec r 2 hr.1 (by omega), if_neg (by omega), if_neg (by omega)] at q
    rw [ec r 3 hr.1 (by omega), if_neg (by omega), if_neg (by omega), e _ _ (by omega) (by omega)]; exact w30 q
  · rw [ec r 4 hr.1 (by omega), if_neg (by omega), if_neg (by omega), e _ _ (by omega) (by omega)]; exact w31
  · rw [ec r 0 hr.1 (by omega), if_pos ⟨rfl, rfl⟩] at b
    rw [ec r (5 + k) hr.1 (by omega), if_neg (by omega), eB k a b]
    by_cases y : k < i
    · rw [if_pos y, if_neg (by omega)]
    · rw [if_neg y, if_pos ⟨rfl, by omega, by omega⟩]
  · rw [ec r 1 hr.1 (by omega), if_neg (by omega), if_neg (by omega)] at b
    rw [ec r (11 + k) hr.1 (by omega), if_neg (by omega), if_neg (by omega), e _ _ (by omega) (by omega)]; exact wP k a b
theorem WR.take (hR : WR w A M o g) (hG : GR g) (h8 : M 0 3 ≤ 8) (h9 : M 0 9 ≤ 10) (hr : 0 ≤ r ∧ r < M 0 3) (i : Int) (hi : 0 ≤ i ∧ i < cel g r 1)
    (e : ∀ (b : Nat) (z : Int), b ≠ w + 19 + r.toNat → ¬ (b = w + 28 ∧ z = r) → ¬ (b = w + 5 ∧ z = cel g r (11 + i)) → A' b z = A b z) (e28 : A' (w + 28) r = cel g r 1 - 1) (e5 : A' (w + 5) (cel g r (11 + i)) = g (6 + cel g r (11 + i)) + 1) (eP : ∀ j, 0 ≤ j → j < cel g r 1 - 1 → A' (w + 19 + r.toNat) j = if j < i then cel g r (11 + j) else cel g r (11 + j + 1)) : WR w A' M o (gTake g r i) := by
  obtain ⟨⟨hS, sK, sQ⟩, hKd, hC, hRo, hOr⟩ := id hR
  obtain ⟨⟨w27, w28, w29, w30, w31⟩, wB, wP⟩ := hRo r hr.1 hr.2
  have hgr := hG r hr.1 (by omega)
  have b0 := hgr.1
  have b1 := hgr.2.1
  have bk := hgr.2.2.2.1 i hi.1 hi.2
  have el : ∀ z, z < 16 → gTake g r i z = if z = 6 + cel g r (11 + i) then g z + 1 else g z := fun z a => lo_gTake g r i z ⟨⟨hr.1, a⟩, hi.1⟩
  have ec := fun (r2 z : Int) (a : 0 ≤ r2) (b : 0 ≤ z ∧ z < 512) => cel_gTake g r i r2 z ⟨⟨⟨⟨hr.1, a⟩, b⟩, hi, b1.2⟩, bk⟩
  refine hR.one hG h8 r hr (fun b z p1 p2 p3 p4 p5 => e _ _ (by omega) (by omega) (by omega)) (fun z a b => by rw [el z (by omega), if_neg (by omega)]) ?_ (fun k a b => ?_) (fun r2 z a b q p x => ?_) ⟨⟨?_, ?_, ?_, fun q => ?_, ?_⟩, fun k a b => ?_, fun k a b => ?_⟩
  · rw [el 0 (by omega), if_neg (by omega), e _ _ (by omega) (by omega) (by omega)]; exact sQ
  · rw [el (6 + k) (by omega)]
    by_cases y : k = cel g r (11 + i)
    · rw [if_pos (by omega), y, e5]
    · rw [if_neg (by omega), e _ _ (by omega) (by omega) (by omega)]; exact (hKd k a b).2.2
  · rw [ec r2 z a ⟨p, x⟩, if_neg (by omega), if_neg (by omega)]
  · rw [ec r 0 hr.1 (by omega), if_neg (by omega), if_neg (by omega), e _ _ (by omega) (by omega) (by omega)]; exact w27
  · rw [ec r 1 hr.1 (by omega), if_pos ⟨rfl, rfl⟩]; exact e28
  · rw [ec r 2 hr.1 (by omega), if_neg (by omega), if_neg (by omega), e _ _ (by omega) (by omega) (by omega)]; exact w29
  · rw [ec r 2 hr.1 (by omega), if_neg (by omega), if_neg (by omega)] at q
    rw [ec r 3 hr.1 (by omega), if_neg (by omega), if_neg (by omega), e _ _ (by omega) (by omega) (by omega)]; exact w30 q
  · rw [ec r 4 hr.1 (by omega), if_neg (by omega), if_neg (by omega), e _ _ (by omega) (by omega) (by omega)]; exact w31
  · rw [ec r 0 hr.1 (by omega), if_neg (by omega), if_neg (by omega)] at b
    rw [ec r (5 + k) hr.1 (by omega), if_neg (by omega), if_neg (by omega), e _ _ (by omega) (by omega) (by omega)]; exact wB k a b
  · rw [ec r 1 hr.1 (by omega), if_pos ⟨rfl, rfl⟩] at b
    rw [ec r (11 + k) hr.1 (by omega), if_neg (by omega), eP k a b]
    by_cases y : k < i
    · rw [if_pos y, if_neg (by omega)]
    · rw [if_neg y, if_pos ⟨rfl, by omega, by omega⟩]
theorem WR.noq (hR : WR w A M o g) (hG : GR g) (h8 : M 0 3 ≤ 8) (h9 : M 0 9 ≤ 10) (hr : 0 ≤ r ∧ r < M 0 3) (hq : cel g r 2 ≠ -1)
    (e : ∀ (b : Nat) (z : Int), ¬ (b = w ∧ z = 15) → ¬ (b = w + 29 ∧ z = r) → ¬ (b = w + 30 ∧ z = r) → A' b z = A b z) (e15 : A' w 15 = g 0 + 1) (e29 : A' (w + 29) r = -1) : WR w A' M o (gNoQ g r) := by
  obtain ⟨⟨hS, sK, sQ⟩, hKd, hC, hRo, hOr⟩ := id hR
  obtain ⟨⟨w27, w28, w29, w30, w31⟩, wB, wP⟩ := hRo r hr.1 hr.2
  have hgr := hG r hr.1 (by omega)
  have b0 := hgr.1
  have b1 := hgr.2.1
  have el := fun (z : Int) (a : z < 16) => lo_gNoQ g r z ⟨hr.1, a⟩
  have ec := fun (r2 z : Int) (a : 0 ≤ r2) (b : 0 ≤ z ∧ z < 512) => cel_gNoQ g r r2 z ⟨⟨hr.1, a⟩, b⟩
  refine hR.one hG h8 r hr (fun b z p1 p2 p3 p4 p5 => e _ _ (by omega) (by omega) (by omega)) (fun z a b => by rw [el z (by omega), if_neg (by omega)]) ?_ (fun k a b => ?_) (fun r2 z a b q p x => ?_) ⟨⟨?_, ?_, ?_, fun q => ?_, ?_⟩, fun k a b => ?_, fun k a b => ?_⟩
  · rw [el 0 (by omega), if_pos ⟨rfl, hq⟩]; exact e15
  · rw [el (6 + k) (by omega), if_neg (by omega), e _ _ (by omega) (by omega) (by omega)]; exact (hKd k a b).2.2
  · rw [ec r2 z a ⟨p, x⟩, if_neg (by omega), if_neg (by omega)]
  · rw [ec r 0 hr.1 (by omega), if_neg (by omega), if_neg (by omega), e _ _ (by omega) (by omega) (by omega)]; exact w27
  · rw [ec r 1 hr.1 (by omega), if_neg (by omega), if_neg (by omega), e _ _ (by omega) (by omega) (by omega)]; exact w28
  · rw [ec r 2 hr.1 (by omega), if_pos ⟨rfl, rfl⟩]; exact e29
  · rw [ec r 2 hr.1 (by omega), if_pos ⟨rfl, rfl⟩] at q
    exact absurd rfl q
  · rw [ec r 4 hr.1 (by omega), if_neg (by omega), if_neg (by omega), e _ _ (by omega) (by omega) (by omega)]; exact w31
  · rw [ec r 0 hr.1 (by omega), if_neg (by omega), if_neg (by omega)] at b
    rw [ec r (5 + k) hr.1 (by omega), if_neg (by omega), if_neg (by omega), e _ _ (by omega) (by omega) (by omega)]; exact wB k a b
  · rw [ec r 1 hr.1 (by omega), if_neg (by omega), if_neg (by omega)] at b
    rw [ec r (11 + k) hr.1 (by omega), if_neg (by omega), if_neg (by omega), e _ _ (by omega) (by omega) (by omega)]; exact wP k a b
theorem lo_gTi (g : Int → Int) (r z : Int) (h : 0 ≤ r ∧ z < 16) : gTi g r z = g z := by
  unfold gTi
  rw [gpu_lo _ _ _ _ _ (by omega), gpu_lo _ _ _ _ _ (by omega), gpu_lo _ _ _ _ _ (by omega)]
theorem WR.ti (hR : WR w A M o g) (hG : GR g) (h8 : M 0 3 ≤ 8) (h9 : M 0 9 ≤ 10) (hr : 0 ≤ r ∧ r < M 0 3) (hq : cel g r 2 ≠ -1) (v : Int) (hv : v = if cel g r 4 - 10 < 0 then 0 else cel g r 4 - 10) : WR w (up (up (up A (w + 29) r (cel g r 2 + 1)) (w + 30) r (cel g r 3 + 1)) (w + 31) r v) M o (gTi g r) := by
  obtain ⟨⟨hS, sK, sQ⟩, hKd, hC, hRo, hOr⟩ := id hR
  obtain ⟨⟨w27, w28, w29, w30, w31⟩, wB, wP⟩ := hRo r hr.1 hr.2
  have hgr := hG r hr.1 (by omega)
  have b0 := hgr.1
  have b1 := hgr.2.1
  have el := fun (z : Int) (a : z < 16) => lo_gTi g r z ⟨hr.1, a⟩
  have ec := fun (r2 z : Int) (b : 0 ≤ z ∧ z < 512) => cel_gTi g r r2 z b
  have e : ∀ (b : Nat) (z : Int), ¬ (w + 29 ≤ b ∧ b ≤ w + 31 ∧ z = r) → up (up (up A (w + 29) r (cel g r 2 + 1)) (w + 30) r (cel g r 3 + 1)) (w + 31) r v b z = A b z := fun b z h => by rw [up_n _ _ _ _ _ _ (by omega), up_n _ _ _ _ _ _ (by omega), up_n _ _ _ _ _ _ (by omega)]
  refine hR.one hG h8 r hr (fun b z p1 p2 p3 p4 p5 => e _ _ (by omega)) (fun z a b => el z (by omega)) ?_ (fun k a b => ?_) (fun r2 z a b q p x => ?_) ⟨⟨?_, ?_, ?_, fun q => ?_, ?_⟩, fun k a b => ?_, fun k a b => ?_⟩
  · rw [el 0 (by omega), e _ _ (by omega)]; exact sQ
  · rw [el (6 + k) (by omega), e _ _ (by omega)]; exact (hKd k a b).2.2
  · rw [ec r2 z ⟨p, x⟩, if_neg (by omega), if_neg (by omega), if_neg (by omega)]
  · rw [ec r 0 (by omega), if_neg (by omega), if_neg (by omega), if_neg (by omega), e _ _ (by omega)]; exact w27
  · rw [ec r 1 (by omega), if_neg (by omega), if_neg (by omega), if_neg (by omega), e _ _ (by omega)]; exact w28
  · rw [ec r 2 (by omega), if_neg (by omega), if_neg (by omega), if_pos ⟨rfl, rfl⟩, up_n _ _ _ _ _ _ (by omega), up_n _ _ _ _ _ _ (by omega), up_s]
  · rw [ec r 3 (by omega), if_neg (by omega), if_pos ⟨rfl, rfl⟩, up_n _ _ _ _ _ _ (by omega), up_s]
  · rw [ec r 4 (by omega), if_pos ⟨rfl, rfl⟩, up_s, hv]
  · rw [ec r 0 (by omega), if_neg (by omega), if_neg (by omega), if_neg (by omega)] at b
    rw [ec r (5 + k) (by omega), if_neg (by omega), if_neg (by omega), if_neg (by omega), e _ _ (by omega)]; exact wB k a b
  · rw [ec r 1 (by omega), if_neg (by omega), if_neg (by omega), if_neg (by omega)] at b
    rw [ec r (11 + k) (by omega), if_neg (by omega), if_neg (by omega), if_neg (by omega), e _ _ (by omega)]; exact wP k a b
theorem WR.buy (hR : WR w A M o g) (hG : GR g) (h8 : 1 ≤ M 0 3 ∧ M 0 3 ≤ 8) (h9 : M 0 9 ≤ 10) (k m : Int) (hk : 0 ≤ k ∧ k < M 0 9) : WR w (up A (w + 5) k (g (6 + k) + m)) M o (gu g (6 + k) (g (6 + k) + m)) := by
  obtain ⟨⟨hS, sK, sQ⟩, hKd, hC, hRo, hOr⟩ := id hR
  have el : ∀ z, z ≠ 6 + k → gu g (6 + k) (g (6 + k) + m) z = g z := fun z h => gu_n _ _ _ _ h
  have ec := fun (r2 z : Int) (a : 0 ≤ r2) (b : 0 ≤ z) => cel_gu g (6 + k) (g (6 + k) + m) r2 z ⟨by omega, a, b⟩
  obtain ⟨⟨w27, w28, w29, w30, w31⟩, wB, wP⟩ := hRo 0 (by omega) (by omega)
  refine hR.one hG h8.2 0 (by omega) (fun b z p1 p2 p3 p4 p5 => by rw [up_n _ _ _ _ _ _ (by omega)]) (fun z a b => el z (by omega)) ?_ (fun k2 a b => ?_) (fun r2 z a b q p x => ec r2 z a p) ⟨⟨?_, ?_, ?_, fun q => ?_, ?_⟩, fun k a b => ?_, fun k a b => ?_⟩
  · rw [el 0 (by omega), up_n _ _ _ _ _ _ (by omega)]; exact sQ
  · by_cases y : k2 = k
    · rw [y, up_s, gu_s]
    · rw [el _ (by omega), up_n _ _ _ _ _ _ (by omega)]; exact (hKd k2 a b).2.2
  · rw [ec _ _ (by omega) (by omega), up_n _ _ _ _ _ _ (by omega)]; exact w27
  · rw [ec _ _ (by omega) (by omega), up_n _ _ _ _ _ _ (by omega)]; exact w28
  · rw [ec _ _ (by omega) (by omega), up_n _ _ _ _ _ _ (by omega)]; exact w29
  · rw [ec _ _ (by omega) (by omega)] at q
    rw [ec _ _ (by omega) (by omega), up_n _ _ _ _ _ _ (by omega)]; exact w30 q
  · rw [ec _ _ (by omega) (by omega), up_n _ _ _ _ _ _ (by omega)]; exact w31
  · rw [ec _ _ (by omega) (by omega)] at b
    rw [ec _ _ (by omega) (by omega), up_n _ _ _ _ _ _ (by omega)]; exact wB _ a b
  · rw [ec _ _ (by omega) (by omega)] at b
    rw [ec _ _ (by omega) (by omega), up_n _ _ _ _ _ _ (by omega)]; exact wP _ a b
end WAC
