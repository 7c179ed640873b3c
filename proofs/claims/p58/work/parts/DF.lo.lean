/-! THE LAW: counts, as changes leave them -/
section LOZ
variable {M : AI} {g : Int → Int} {r B : Int}
theorem GS_of (h : GC M g B) (hB : B ≤ 500000000) : GS g 500000000 := fun r a b => by have := h.1.2.2.2.2 r a b; omega
theorem gPr_lo (hM : SA M) (h : GC M g B) (hB : B ≤ 500000000) : (gPr M g).2 1 = g 1 + 1 ∧ g 2 ≤ (gPr M g).2 2 ∧ (gPr M g).2 2 ≤ g 2 + 1 := by
  have h38 := hM.1.2.1
  have hGs := GR.sh hM h.1.1 (GS_of h hB) (M 0 3).toNat
  have l : ∀ z, 1 ≤ z → z ≤ 2 → (lkN M (shN M g (M 0 3).toNat) (M 0 3).toNat).2 z = g z := fun z a b => by rw [lkN_lo M hGs z ⟨a, by omega⟩ _ (by omega), lo_shN _ _ _ (by omega)]
  unfold gPr
  dsimp only
  refine ⟨?_, ?_, ?_⟩
  · rw [gu_n _ _ _ _ (by omega), gu_s, l 1 (by omega) (by omega)]
  · rw [gu_s, l 2 (by omega) (by omega)]; split <;> omega
  · rw [gu_s, l 2 (by omega) (by omega)]; split <;> omega
theorem prN_lo (hM : SA M) (h : GC M g B) (h0 : 0 ≤ B) : ∀ n : Nat, B + 54 * n ≤ 500000000 → prN M g n 1 = g 1 + n ∧ g 2 ≤ prN M g n 2 ∧ prN M g n 2 ≤ g 2 + n
  | 0, _ => ⟨by show g 1 = g 1 + 0; omega, by show g 2 ≤ g 2; omega, by show g 2 ≤ g 2 + 0; omega⟩
  | n + 1, hn => by
    have ih := prN_lo hM h h0 n (by omega)
    have h1 := gPr_lo hM (GC_prN hM h h0 n (by omega)) (by omega)
    show (gPr M (prN M g n)).2 1 = _ ∧ g 2 ≤ (gPr M (prN M g n)).2 2 ∧ (gPr M (prN M g n)).2 2 ≤ _
    omega
theorem gDa_lo (hM : SA M) (h : GC M g B) (hB : B ≤ 500000000) (z : Int) (hz : 1 ≤ z ∧ z ≤ 2) : (gDa M g).2 z = g z := by
  have h38 := hM.1.2.1
  have hGs := GR.da hM h.1.1 (GS_of h hB) (M 0 3).toNat
  unfold gDa
  rw [lkN_lo M (fun r a b => (hGs r a b).gu a (by omega)) z ⟨hz.1, by omega⟩ _ (by omega), gu_n _ _ _ _ (by omega), lo_daN _ _ _ (by omega)]
theorem dyN_lo (hM : SA M) (h : GC M g B) (h0 : 0 ≤ B) (z : Int) (hz : 1 ≤ z ∧ z ≤ 2) : ∀ n : Nat, B + 4500 * n ≤ 500000000 → dyN M g n z = g z
  | 0, _ => rfl
  | n + 1, hn => by
    have ih := dyN_lo hM h h0 z hz n (by omega)
    have h1 := gDa_lo hM (GC_dyN hM h h0 n (by omega)) (by omega) z hz
    exact h1.trans ih
theorem tiF_lo (sp r : Int) (hr : 0 ≤ r) (z : Int) (hz : z < 16) : ∀ (j : Nat) (g : Int → Int), tiF sp r j g z = g z
  | 0, _ => rfl
  | j + 1, g => by
    by_cases y : cel g r 2 < sp ∧ 0 < cel g r 4
    · rw [tiF_y _ _ _ _ y, tiF_lo sp r hr z hz j, lo_gTi _ _ _ ⟨hr, hz⟩]
    · rw [tiF_n _ _ _ _ y]
theorem pcN_z (g : Int → Int) (r d z : Int) (hr : 0 ≤ r) (hg : RG g r) (hd : 0 ≤ d ∧ d < 10) (hz : z < 6) : ∀ n : Nat, cel g r 1 + n ≤ 500 → pcN g r d n z = g z
  | 0, _ => rfl
  | n + 1, h => by
    have h1 := (pcN_1 g r d hr hg hd n (by omega)).2.2.1
    show gPut (pcN g r d n) r d z = _
    rw [lo_gPut _ _ _ _ ⟨⟨hr, by omega⟩, h1.1⟩, if_neg (by omega)]
    exact pcN_z g r d z hr hg hd hz n (by omega)
theorem plN_z (g : Int → Int) (r z : Int) (o c : Int → Int) (hr : 0 ≤ r) (hg : RG g r) (hz : z < 6) : ∀ p : Nat, (∀ q : Int, 0 ≤ q → q < p → (0 ≤ o q ∧ o q < 10) ∧ 0 ≤ c q) → (∀ q : Int, 0 ≤ q → q ≤ p → cel g r 1 + sm c q ≤ 500) → plN g r o c p z = g z
  | 0, _, _ => rfl
  | p + 1, h1, h2 => by
    have ih := plN_z g r z o c hr hg hz p (fun q a b => h1 q a (by omega)) (fun q a b => h2 q a (by omega))
    obtain ⟨k1, k2⟩ := plN_1 g r o c hr hg p (fun q a b => h1 q a (by omega)) (fun q a b => h2 q a (by omega))
    have h3 := h1 p (by omega) (by omega)
    have h4 := h2 (p + 1) (by omega) (by omega)
    rw [sm_s _ _ (by omega)] at h4
    show pcN (plN g r o c p) r (o p) (c p).toNat z = _
    rw [pcN_z _ _ _ z hr k2 h3.1 hz _ (by omega)]
    exact ih
theorem gLock_z (g : Int → Int) (r z : Int) (o c : Int → Int) (n op : Int) (hr : 0 ≤ r) (hg : RG g r) (hn : 0 ≤ n) (hop : -1 ≤ op ∧ op ≤ 20) (hz : 0 < z ∧ z < 6) (h1 : ∀ q : Int, 0 ≤ q → q < n → (0 ≤ o q ∧ o q < 10) ∧ 0 ≤ c q) (h2 : ∀ q : Int, 0 ≤ q → q ≤ n → cel g r 1 + sm c q ≤ 500) : gLock g r o c n op z = g z := by
  have c1 : cel (gQ g r op) r 1 = cel g r 1 := by rw [cel_gQ _ _ _ _ _ (by omega), if_neg (by omega), if_neg (by omega)]
  unfold gLock
  rw [gpu_lo _ _ _ _ _ (by omega), plN_z _ _ z _ _ hr (RG.q ⟨hr, hr⟩ hop hg) hz.2 _ (fun q a b => h1 q a (by omega)) (fun q a b => by rw [c1]; exact h2 q a (by omega)), lo_gQ _ _ _ _ (by omega), if_neg (by omega)]
/-- a choice's lock: counts stay, the row holds so many pieces more -/
theorem gLock_n (hM : SA M) (h : GC M g B) {o : Int → Int} (h37 : M 0 37 = -1) (hO : ordOK (M 1) (M 2) (M 0 9) o) (hr : 0 ≤ r ∧ r < M 0 3) (hc : (chL M g o r).1 < 1000000) (z : Int) (hz : 0 < z ∧ z < 6) : gLock g r o (tk (M 0 9) o (M 2) (stM M g) (chS M g o r)) (M 0 9) (chL M g o r).2 z = g z := by
  have h38 := hM.1.2.1
  have h5 := hM.1.2.2.2.1
  have h9 := hM.1.2.2.2.2.2.2.2
  obtain ⟨l1, l2⟩ := h.lockB hM hO hr hc
  have hcb := (chL_b (o := o) hM (h.need hM hr).1).2.1
  exact gLock_z g r z o _ (M 0 9) _ hr.1 (h.1.1 r hr.1 (by omega)) (by omega) (by omega) hz (fun q a b => ⟨by have := hO.1 q a b; omega, (l1 q a b).1⟩) l2
end LOZ
section ACX
variable {c : CC} {A : AI} {J : JI} {w : Nat}
theorem ii_s (a : Int) : ii a + 1 = ii (a + 1) := ii_add a 1
theorem ii_p (a : Int) : ii a - 1 = ii (a - 1) := ii_sub a 1
theorem wd3 (hW : isWorld c w) (i : Int32) (z : Int) (e : i = ii z) (hz : 0 ≤ z ∧ z < 8) (k : Int32 → Option AR) : aI (CW c A J) (w + 3) 100 i k = k (ii (A (w + 3) z)) := by rw [e]; exact wdA3 hW z k hz
theorem wd7 (hW : isWorld c w) (i : Int32) (z : Int) (e : i = ii z) (hz : 0 ≤ z ∧ z < 6) (k : Int32 → Option AR) : aI (CW c A J) (w + 7) 100 i k = k (ii (A (w + 7) z)) := by rw [e]; exact wdA7 hW z k hz
theorem ii_3 : ii 3 = (3 : Int32) := rfl
theorem ii_0 : ii 0 = (0 : Int32) := rfl
theorem ii_2 : ii 2 = (2 : Int32) := rfl
theorem rZ_1 (τ : AS) : rZ 1 τ = some (Sum.inl (some (Value.int (ii (1)))), τ) := rZ_q 1 τ (by omega)
end ACX
/-- what a change leads to: the law goes on -/
abbrev GRo (c c' : CC) (k m : Nat) : Prop := (c.2.2.1 ≤ c'.2.2.1 ∧ c'.2.2.1 ≤ c.2.2.1 + k) ∧ (c.2.2.2.1 ≤ c'.2.2.2.1 ∧ c'.2.2.2.1 ≤ c.2.2.2.1 + k) ∧ c.2.2.2.2 ≤ c'.2.2.2.2 ∧ c'.2.2.2.2 ≤ c.2.2.2.2 + m
abbrev ActR (C0 N0 n : Nat) (pl sp tv cap w d : Nat) (c : CC) (q : Int) (x : Option AR) : Prop := ∃ (c' : CC) (A' : AI) (J' : JI) (M' : AI) (g' : Int → Int), x = some (Sum.inl (some (Value.int (ii (1)))), CW c' A' J') ∧ LwD C0 N0 (n + 1) pl sp tv cap c' A' J' M' g' w d q ∧ GRo c c' 90 6400
theorem LX.gro {k m : Nat} {c c' : CC} {A A' : AI} {J J' : JI} (h : LX k m c c' A A' J J') : GRo c c' k m := ⟨⟨h.1.1, h.2.1.1⟩, h.2.1.2.1, h.2.1.2.2⟩
