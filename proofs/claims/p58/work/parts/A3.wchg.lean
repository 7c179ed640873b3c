/-! THE LAW'S WORLD: what it changes -/
theorem up_comm (A : AI) {a b : Nat} {x y v u : Int} (h : a ≠ b) : up (up A a x v) b y u = up (up A b y u) a x v := by
  funext d z
  unfold up
  by_cases p : d = b ∧ z = y
  · rw [if_pos p, if_neg (by omega), if_pos p]
  · rw [if_neg p]
    by_cases q : d = a ∧ z = x
    · rw [if_pos q, if_pos q]
    · rw [if_neg q, if_neg q, if_neg p]
section WCH
variable {c : CC} {A A' : AI} {J : JI} {w : Nat} {M : AI} {o g g' : Int → Int} {r B : Int}
theorem WR.fr (hR : WR w A M o g) (e : ∀ (b : Nat) (z : Int), inW w b → A' b z = A b z) (h8 : M 0 3 ≤ 8) : WR w A' M o g := by
  obtain ⟨⟨⟨s0, s1, s2, s3, s4, s5, s6⟩, sK, sQ⟩, hKd, ⟨c0, c1, c2, c3, c4⟩, hRo, hOr⟩ := hR
  have ee : ∀ (i : Nat) (z : Int), i < 32 → A' (w + i) z = A (w + i) z := fun i z hi => e _ z ⟨by omega, by omega⟩
  have e0 : ∀ z : Int, A' w z = A w z := fun z => e _ z ⟨by omega, by omega⟩
  have e10 : ∀ (r z : Int), 0 ≤ r → r < M 0 3 → A' (w + 10 + r.toNat) z = A (w + 10 + r.toNat) z := fun r z a b => e _ z ⟨by omega, by omega⟩
  have e19 : ∀ (r z : Int), 0 ≤ r → r < M 0 3 → A' (w + 19 + r.toNat) z = A (w + 19 + r.toNat) z := fun r z a b => e _ z ⟨by omega, by omega⟩
  refine ⟨⟨⟨?_, ?_, ?_, ?_, ?_, ?_, ?_⟩, ?_, ?_⟩, fun k a b => ?_, ⟨?_, ?_, ?_, ?_, ?_⟩, fun r a b => ?_, fun p a b => ?_, fun k a b => ?_⟩
  · rw [ee 3 _ (by omega)]; exact s0
  · rw [ee 3 _ (by omega)]; exact s1
  · rw [ee 3 _ (by omega)]; exact s2
  · rw [ee 3 _ (by omega)]; exact s3
  · rw [ee 3 _ (by omega)]; exact s4
  · rw [ee 3 _ (by omega)]; exact s5
  · rw [ee 3 _ (by omega)]; exact s6
  · rw [e0]; exact sK
  · rw [e0]; exact sQ
  · rw [ee 4 _ (by omega), ee 8 _ (by omega), ee 5 _ (by omega)]; exact hKd k a b
  · rw [ee 7 _ (by omega)]; exact c0
  · rw [ee 7 _ (by omega)]; exact c1
  · rw [ee 7 _ (by omega)]; exact c2
  · rw [ee 7 _ (by omega)]; exact c3
  · rw [ee 7 _ (by omega)]; exact c4
  · obtain ⟨h1, h2, h3⟩ := hRo r a b
    refine ⟨?_, fun k p q => ?_, fun k p q => ?_⟩
    · rw [ee 27 _ (by omega), ee 28 _ (by omega), ee 29 _ (by omega), ee 30 _ (by omega), ee 31 _ (by omega)]; exact h1
    · rw [e10 r k a b]; exact h2 k p q
    · rw [e19 r k a b]; exact h3 k p q
  · rw [ee 6 _ (by omega)]; exact hOr.1 p a b
  · rw [ee 8 _ (by omega)]; exact hOr.2 k a b
/-- one row is other, and the stock, the counts -/
theorem WR.upd (hR : WR w A M o g) (hG : GR g) (h8 : M 0 3 ≤ 8) (r : Int)
    (e : ∀ (b : Nat) (z : Int), (b = w ∧ z = 14 ∨ b = w + 3 ∨ b = w + 4 ∨ b = w + 6 ∨ b = w + 8) → A' b z = A b z)
    (q : A' w 15 = g' 0) (l : ∀ k, 0 ≤ k → k < M 0 9 → A' (w + 5) k = g' (6 + k))
    (cn : A' (w + 7) 0 = g' 1 ∧ A' (w + 7) 1 = g' 2 ∧ A' (w + 7) 2 = g' 3 ∧ A' (w + 7) 3 = g' 4 ∧ A' (w + 7) 4 = g' 5)
    (oth : ∀ r2, 0 ≤ r2 → r2 < M 0 3 → r2 ≠ r → (∀ b, w + 27 ≤ b → b ≤ w + 31 → A' b r2 = A b r2) ∧ (∀ k, A' (w + 10 + r2.toNat) k = A (w + 10 + r2.toNat) k) ∧ ∀ k, A' (w + 19 + r2.toNat) k = A (w + 19 + r2.toNat) k)
    (ce : ∀ r2 z, 0 ≤ r2 → r2 < 8 → r2 ≠ r → 0 ≤ z → z < 512 → cel g' r2 z = cel g r2 z)
    (row : 0 ≤ r → r < M 0 3 → (A' (w + 27) r = cel g' r 0 ∧ A' (w + 28) r = cel g' r 1 ∧ A' (w + 29) r = cel g' r 2 ∧ (cel g' r 2 ≠ -1 → A' (w + 30) r = cel g' r 3) ∧ A' (w + 31) r = cel g' r 4) ∧
      (∀ k, 0 ≤ k → k < cel g' r 0 → A' (w + 10 + r.toNat) k = cel g' r (5 + k)) ∧ ∀ k, 0 ≤ k → k < cel g' r 1 → A' (w + 19 + r.toNat) k = cel g' r (11 + k)) : WR w A' M o g' := by
  obtain ⟨⟨⟨s0, s1, s2, s3, s4, s5, s6⟩, sK, sQ⟩, hKd, ⟨c0, c1, c2, c3, c4⟩, hRo, hOr⟩ := hR
  have e3 : ∀ z, A' (w + 3) z = A (w + 3) z := fun z => e _ z (by omega)
  refine ⟨⟨⟨?_, ?_, ?_, ?_, ?_, ?_, ?_⟩, ?_, q⟩, fun k a b => ⟨?_, ?_, l k a b⟩, cn, fun r2 a b => ?_, fun p a b => ?_, fun k a b => ?_⟩
  · rw [e3]; exact s0
  · rw [e3]; exact s1
  · rw [e3]; exact s2
  · rw [e3]; exact s3
  · rw [e3]; exact s4
  · rw [e3]; exact s5
  · rw [e3]; exact s6
  · rw [e _ _ (by omega)]; exact sK
  · rw [e _ _ (by omega)]; exact (hKd k a b).1
  · rw [e _ _ (by omega)]; exact (hKd k a b).2.1
  · by_cases y : r2 = r
    · subst y
      exact row a b
    · obtain ⟨h1, h2, h3⟩ := hRo r2 a b
      obtain ⟨t1, t2, t3⟩ := oth r2 a b y
      have hg := hG r2 a (by omega)
      have k0 := hg.1
      have k1 := hg.2.1
      have cz := fun z p x => ce r2 z a (by omega) y p x
      refine ⟨?_, fun k p x => ?_, fun k p x => ?_⟩
      · rw [t1 _ (by omega) (by omega), t1 _ (by omega) (by omega), t1 _ (by omega) (by omega), t1 _ (by omega) (by omega), t1 _ (by omega) (by omega), cz 0 (by omega) (by omega), cz 1 (by omega) (by omega), cz 2 (by omega) (by omega), cz 3 (by omega) (by omega), cz 4 (by omega) (by omega)]
        exact h1
      · rw [cz 0 (by omega) (by omega)] at x
        rw [t2, cz (5 + k) (by omega) (by omega)]
        exact h2 k p x
      · rw [cz 1 (by omega) (by omega)] at x
        rw [t3, cz (11 + k) (by omega) (by omega)]
        exact h3 k p x
  · rw [e _ _ (by omega)]; exact hOr.1 p a b
  · rw [e _ _ (by omega)]; exact hOr.2 k a b
theorem n_putsR (hW : isWorld c w) (hR : WR w A M o g) (hM : SA M) (hG : (GR g ∧ True) ∧ True) (h4 : M 0 9 ≤ 4) (hr : 0 ≤ r ∧ r < M 0 3) (d : Int) (hd : 0 ≤ d ∧ d < M 0 9) (h5 : cel g r 1 < 500) : ∃ A', fX19_puts w (ii r) (ii d) (CW c A J) = some (Sum.inl none, CW c A' J) ∧ WR w A' M o (gPut g r d) ∧ ∀ (b : Nat) (z : Int), ¬ inW w b → A' b z = A b z := by
  have hR0 := hR
  obtain ⟨⟨⟨s0, s1, s2, s3, s4, s5, s6⟩, sK, sQ⟩, hKd, ⟨c0, c1, c2, c3, c4⟩, hRo, hOr⟩ := hR
  have h38 := hM.1.2.1
  have hr8 : 0 ≤ r ∧ r < 8 := by omega
  have hgr := hG.1.1 r hr8.1 hr8.2
  obtain ⟨⟨w27, w28, w29, w30, w31⟩, wB, wP⟩ := hRo r hr.1 hr.2
  have b0 := hgr.1
  have b1 := hgr.2.1
  have b2 := hgr.2.2.2.2.1
  have b3 := hgr.2.2.2.2.2.1
  have b4 := hgr.2.2.2.2.2.2
  have hkd := (hKd d hd.1 hd.2).2.2
  refine ⟨up (up (up A (w + 19 + r.toNat) (cel g r 1) d) (w + 28) r (cel g r 1 + 1)) (w + 5) d (g (6 + d) - 1), ?_, ?_, fun b z hb => ?_⟩
  · simp (disch := first | assumption | omega) only [fX19_puts, wdR1, wdR2, wdR3, wdR4, wdR5, wdR6, wdR7, wdR8, wdR9, wdR10, wdR11, wdR12, wdR13, wdI14, wdS14, wdI15, wdS15, wdA3, wdU3, wdA4, wdU4, wdA5, wdU5, wdA6, wdU6, wdA7, wdU7, wdA8, wdU8, wdA27, wdU27, wdA28, wdU28, wdA29, wdU29, wdA30, wdU30, wdA31, wdU31, wdB, wdP, wdAB, wdUB, wdAP, wdUP, wdV, drV, drR0, drI1, drS1, k_C, ↓reduceIte, tr_lt, fa_lt, tr_le, fa_le, tr_eq, fa_eq, and_true, true_and, and_false, false_and, il0, il1, il2, il3, il4, il5, il6, il7, il8, il9, il10, il11, il12, il15, il16, il20, il24, il31, il32, il44, il45, il48, il50, il57, il58, il59, il63, il91, il93, il97, il99, il100, il109, il113, il119, il120, il122, il200, il255, il480, il500, il501, il512, il999, il4112, il41120, il1000000, il1000003, ii_add, ii_sub, ii_mul, ii_neg, ii_le, ii_lt, ii_eq, ii_div, q_I, q_V, q_R, lt_q, rZ_q, md_M, md_16, md_4, md_8, md_10, if_true, if_false, if_pos, if_neg, up_s, up_n, w28, hkd]
  · have ec := fun (r2 z : Int) (a : 0 ≤ r2) (b : 0 ≤ z ∧ z < 512) => cel_gPut g r d r2 z ⟨⟨⟨hr.1, a⟩, b⟩, b1, hd.1, by omega⟩
    have el := fun (z : Int) (a : z < 16) => lo_gPut g r d z ⟨⟨hr.1, a⟩, b1.1⟩
    refine hR0.upd hG.1.1 h38.2 r (fun b z q => ?_) ?_ (fun k a b => ?_) ⟨?_, ?_, ?_, ?_, ?_⟩ (fun r2 a b q => ⟨fun b p q2 => ?_, fun k => ?_, fun k => ?_⟩) (fun r2 z a b q p x => ?_) (fun _ _ => ⟨⟨?_, ?_, ?_, fun q => ?_, ?_⟩, fun k a b => ?_, fun k a b => ?_⟩)
    · rw [up_n _ _ _ _ _ _ (by omega), up_n _ _ _ _ _ _ (by omega), up_n _ _ _ _ _ _ (by omega)]
    · rw [el 0 (by omega), if_neg (by omega), up_n _ _ _ _ _ _ (by omega), up_n _ _ _ _ _ _ (by omega), up_n _ _ _ _ _ _ (by omega)]; exact sQ
    · rw [el (6 + k) (by omega)]
      by_cases y : k = d
      · rw [if_pos (by omega), y, up_s]
      · rw [if_neg (by omega), up_n _ _ _ _ _ _ (by omega), up_n _ _ _ _ _ _ (by omega), up_n _ _ _ _ _ _ (by omega)]; exact (hKd k a b).2.2
    · rw [el 1 (by omega), if_neg (by omega), up_n _ _ _ _ _ _ (by omega), up_n _ _ _ _ _ _ (by omega), up_n _ _ _ _ _ _ (by omega)]; exact c0
    · rw [el 2 (by omega), if_neg (by omega), up_n _ _ _ _ _ _ (by omega), up_n _ _ _ _ _ _ (by omega), up_n _ _ _ _ _ _ (by omega)]; exact c1
    · rw [el 3 (by omega), if_neg (by omega), up_n _ _ _ _ _ _ (by omega), up_n _ _ _ _ _ _ (by omega), up_n _ _ _ _ _ _ (by omega)]; exact c2
    · rw [el 4 (by omega), if_neg (by omega), up_n _ _ _ _ _ _ (by omega), up_n _ _ _ _ _ _ (by omega), up_n _ _ _ _ _ _ (by omega)]; exact c3
    · rw [el 5 (by omega), if_neg (by omega), up_n _ _ _ _ _ _ (by omega), up_n _ _ _ _ _ _ (by omega), up_n _ _ _ _ _ _ (by omega)]; exact c4
    · rw [up_n _ _ _ _ _ _ (by omega), up_n _ _ _ _ _ _ (by omega), up_n _ _ _ _ _ _ (by omega)]
    · rw [up_n _ _ _ _ _ _ (by omega), up_n _ _ _ _ _ _ (by omega), up_n _ _ _ _ _ _ (by omega)]
    · rw [up_n _ _ _ _ _ _ (by omega), up_n _ _ _ _ _ _ (by omega), up_n _ _ _ _ _ _ (by omega)]
    · rw [ec r2 z a ⟨p, x⟩, if_neg (by omega), if_neg (by omega)]
    · rw [ec r 0 hr.1 (by omega), if_neg (by omega), if_neg (by omega), up_n _ _ _ _ _ _ (by omega), up_n _ _ _ _ _ _ (by omega), up_n _ _ _ _ _ _ (by omega)]; exact w27
    · rw [ec r 1 hr.1 (by omega), if_pos (by omega), up_n _ _ _ _ _ _ (by omega), up_s]
    · rw [ec r 2 hr.1 (by omega), if_neg (by omega), if_neg (by omega), up_n _ _ _ _ _ _ (by omega), up_n _ _ _ _ _ _ (by omega), up_n _ _ _ _ _ _ (by omega)]; exact w29
    · rw [ec r 2 hr.1 (by omega), if_neg (by omega), if_neg (by omega)] at q
      rw [ec r 3 hr.1 (by omega), if_neg (by omega), if_neg (by omega), up_n _ _ _ _ _ _ (by omega), up_n _ _ _ _ _ _ (by omega), up_n _ _ _ _ _ _ (by omega)]; exact w30 q
    · rw [ec r 4 hr.1 (by omega), if_neg (by omega), if_neg (by omega), up_n _ _ _ _ _ _ (by omega), up_n _ _ _ _ _ _ (by omega), up_n _ _ _ _ _ _ (by omega)]; exact w31
    · rw [ec r 0 hr.1 (by omega), if_neg (by omega), if_neg (by omega)] at b
      rw [ec r (5 + k) hr.1 (by omega), if_neg (by omega), if_neg (by omega), up_n _ _ _ _ _ _ (by omega), up_n _ _ _ _ _ _ (by omega), up_n _ _ _ _ _ _ (by omega)]; exact wB k a b
    · rw [ec r 1 hr.1 (by omega), if_pos (by omega)] at b
      rw [ec r (11 + k) hr.1 (by omega), if_neg (by omega), up_n _ _ _ _ _ _ (by omega), up_n _ _ _ _ _ _ (by omega)]
      by_cases y : k = cel g r 1
      · rw [if_pos (by omega), y, up_s]
      · rw [if_neg (by omega), up_n _ _ _ _ _ _ (by omega)]; exact wP k a (by omega)
  · unfold inW at hb
    rw [up_n _ _ _ _ _ _ (by omega), up_n _ _ _ _ _ _ (by omega), up_n _ _ _ _ _ _ (by omega)]
theorem n_puts (hW : isWorld c w) (hR : WR w A M o g) (hM : SA M) (hG : GC M g B) (h4 : M 0 9 ≤ 4) (hr : 0 ≤ r ∧ r < M 0 3) (d : Int) (hd : 0 ≤ d ∧ d < M 0 9) (h5 : cel g r 1 < 500) : ∃ A', fX19_puts w (ii r) (ii d) (CW c A J) = some (Sum.inl none, CW c A' J) ∧ WR w A' M o (gPut g r d) ∧ ∀ (b : Nat) (z : Int), ¬ inW w b → A' b z = A b z := n_putsR hW hR hM ⟨⟨hG.1.1, trivial⟩, trivial⟩ h4 hr d hd h5
theorem n_unlock (hW : isWorld c w) (hR : WR w A M o g) (hM : SA M) (hG : GC M g B) (h4 : M 0 9 ≤ 4) (hr : 0 ≤ r ∧ r < M 0 3) : ∃ A', fX19_unlock w (ii r) (CW c A J) = some (Sum.inl (some (Value.int (ii (cel g r 1)))), CW c A' J) ∧ WR w A' M o (gEmp g r) ∧ ∀ (b : Nat) (z : Int), ¬ inW w b → A' b z = A b z := by
  have hR0 := hR
  obtain ⟨⟨⟨s0, s1, s2, s3, s4, s5, s6⟩, sK, sQ⟩, hKd, ⟨c0, c1, c2, c3, c4⟩, hRo, hOr⟩ := hR
  have h38 := hM.1.2.1
  have hr8 : 0 ≤ r ∧ r < 8 := by omega
  have hgr := hG.1.1 r hr8.1 hr8.2
  obtain ⟨⟨w27, w28, w29, w30, w31⟩, wB, wP⟩ := hRo r hr.1 hr.2
  have b0 := hgr.1
  have b1 := hgr.2.1
  have b2 := hgr.2.2.2.2.1
  have b3 := hgr.2.2.2.2.2.1
  have b4 := hgr.2.2.2.2.2.2
  have hkb := hG.1.2.2.2.1 r hr8.1 hr8.2
  have hlp : ∃ D : AI, fX19_unlock_9 FU w (ii r) (ii (cel g r 1)) (ii 0) (CW c A J) = fX19_unlock_37 w (ii r) (ii (cel g r 1)) (CW c D J) ∧ (∀ k, 0 ≤ k → k < M 0 9 → D (w + 5) k = g (6 + k) + cnt g r k) ∧ ∀ (b : Nat) (z : Int), b ≠ w + 5 → D b z = A b z := by
    refine lp (fun n i (s : AI) => fX19_unlock_9 n w (ii r) (ii (cel g r 1)) (ii i) (CW c s J)) (fun x => ∃ D : AI, x = fX19_unlock_37 w (ii r) (ii (cel g r 1)) (CW c D J) ∧ (∀ k, 0 ≤ k → k < M 0 9 → D (w + 5) k = g (6 + k) + cnt g r k) ∧ ∀ (b : Nat) (z : Int), b ≠ w + 5 → D b z = A b z)
      (fun i D => 0 ≤ i ∧ (∀ k, 0 ≤ k → k < M 0 9 → D (w + 5) k = g (6 + k) + sm (fun j => if cel g r (11 + j) = k then 1 else 0) i) ∧ ∀ (b : Nat) (z : Int), b ≠ w + 5 → D b z = A b z) (cel g r 1) ?_ ?_ FU 0 A (by omega) ⟨by omega, fun k a b => by rw [sm_0, (hKd k a b).2.2]; omega, fun _ _ _ => rfl⟩ (by have := FU_e; omega)
    · rintro n i D hi ⟨hI, hD, hF⟩
      have hb := wP i hI hi
      have hk := hkb i hI hi
      have hk0 := (hgr.2.2.2.1 i hI hi).1
      have hl := hD _ hk0 hk
      have hb' : D (w + 19 + r.toNat) i = cel g r (11 + i) := (hF _ _ (by omega)).trans hb
      refine Or.inr ⟨up D (w + 5) (cel g r (11 + i)) (D (w + 5) (cel g r (11 + i)) + 1), ⟨by omega, fun k a b => ?_, fun b z q => ?_⟩, ?_⟩
      · rw [sm_s _ _ hI]
        by_cases y : k = cel g r (11 + i)
        · rw [y, up_s, if_pos rfl, hl]; omega
        · rw [up_n _ _ _ _ _ _ (by omega), if_neg (fun e => y e.symm), hD k a b]; omega
      · rw [up_n _ _ _ _ _ _ (by omega)]; exact hF b z q
      · simp (disch := first | assumption | omega) only [fX19_unlock_9, wdR1, wdR2, wdR3, wdR4, wdR5, wdR6, wdR7, wdR8, wdR9, wdR10, wdR11, wdR12, wdR13, wdI14, wdS14, wdI15, wdS15, wdA3, wdU3, wdA4, wdU4, wdA5, wdU5, wdA6, wdU6, wdA7, wdU7, wdA8, wdU8, wdA27, wdU27, wdA28, wdU28, wdA29, wdU29, wdA30, wdU30, wdA31, wdU31, wdB, wdP, wdAB, wdUB, wdAP, wdUP, wdV, drV, drR0, drI1, drS1, k_C, ↓reduceIte, tr_lt, fa_lt, tr_le, fa_le, tr_eq, fa_eq, and_true, true_and, and_false, false_and, il0, il1, il2, il3, il4, il5, il6, il7, il8, il9, il10, il11, il12, il15, il16, il20, il24, il31, il32, il44, il45, il48, il50, il57, il58, il59, il63, il91, il93, il97, il99, il100, il109, il113, il119, il120, il122, il200, il255, il480, il500, il501, il512, il999, il4112, il41120, il1000000, il1000003, ii_add, ii_sub, ii_mul, ii_neg, ii_le, ii_lt, ii_eq, ii_div, q_I, q_V, q_R, lt_q, rZ_q, md_M, md_16, md_4, md_8, md_10, if_true, if_false, if_pos, if_neg, hb']
    · rintro n D ⟨hI, hD, hF⟩
      refine ⟨D, ?_, hD, hF⟩
      simp (disch := first | assumption | omega) only [fX19_unlock_9, ↓reduceIte, tr_lt, fa_lt, tr_le, fa_le, tr_eq, fa_eq, and_true, true_and, and_false, false_and, il0, il1, il2, il3, il4, il5, il6, il7, il8, il9, il10, il11, il12, il15, il16, il20, il24, il31, il32, il44, il45, il48, il50, il57, il58, il59, il63, il91, il93, il97, il99, il100, il109, il113, il119, il120, il122, il200, il255, il480, il500, il501, il512, il999, il4112, il41120, il1000000, il1000003, ii_add, ii_sub, ii_mul, ii_neg, ii_le, ii_lt, ii_eq, ii_div, q_I, q_V, q_R, lt_q, rZ_q, md_M, md_16, md_4, md_8, md_10, if_true, if_false, if_pos, if_neg]
  obtain ⟨D, e1, hD, hF⟩ := hlp
  have ec := fun (r2 z : Int) (a : 0 ≤ r2) (b : 0 ≤ z ∧ z < 512) => cel_gEmp g r r2 z ⟨⟨hr.1, a⟩, b⟩
  have el := fun (z : Int) (a : z < 16) => lo_gEmp g r z ⟨hr.1, a⟩
  have d29 : D (w + 29) r = cel g r 2 := (hF _ _ (by omega)).trans w29
  have d15 : D w 15 = g 0 := (hF _ _ (by omega)).trans sQ
  have key : ∀ Q : Int, Q = (if cel g r 2 = -1 then g 0 else g 0 + 1) → WR w (up (up (up (up (up D w 15 Q) (w + 28) r 0) (w + 31) r 0) (w + 29) r (-1)) (w + 30) r 0) M o (gEmp g r) ∧ ∀ (b : Nat) (z : Int), ¬ inW w b → up (up (up (up (up D w 15 Q) (w + 28) r 0) (w + 31) r 0) (w + 29) r (-1)) (w + 30) r 0 b z = A b z := by
    intro Q hQ
    refine ⟨hR0.upd hG.1.1 h38.2 r (fun b z q => ?_) ?_ (fun k a b => ?_) ⟨?_, ?_, ?_, ?_, ?_⟩ (fun r2 a b q => ⟨fun b p q2 => ?_, fun k => ?_, fun k => ?_⟩) (fun r2 z a b q p x => ?_) (fun _ _ => ⟨⟨?_, ?_, ?_, fun q => ?_, ?_⟩, fun k a b => ?_, fun k a b => ?_⟩), fun b z hb => ?_⟩
    · rw [up_n _ _ _ _ _ _ (by omega), up_n _ _ _ _ _ _ (by omega), up_n _ _ _ _ _ _ (by omega), up_n _ _ _ _ _ _ (by omega), up_n _ _ _ _ _ _ (by omega)]; exact hF _ _ (by omega)
    · rw [el 0 (by omega), up_n _ _ _ _ _ _ (by omega), up_n _ _ _ _ _ _ (by omega), up_n _ _ _ _ _ _ (by omega), up_n _ _ _ _ _ _ (by omega), up_s, hQ]
      by_cases y : cel g r 2 = -1
      · rw [if_pos y, if_neg (by omega), if_neg (by omega)]
      · rw [if_neg y, if_pos ⟨rfl, y⟩]
    · rw [el (6 + k) (by omega), if_neg (by omega), if_pos (by omega), up_n _ _ _ _ _ _ (by omega), up_n _ _ _ _ _ _ (by omega), up_n _ _ _ _ _ _ (by omega), up_n _ _ _ _ _ _ (by omega), up_n _ _ _ _ _ _ (by omega), hD k a b, show 6 + k - 6 = k by omega]
    · rw [el 1 (by omega), if_neg (by omega), if_neg (by omega), up_n _ _ _ _ _ _ (by omega), up_n _ _ _ _ _ _ (by omega), up_n _ _ _ _ _ _ (by omega), up_n _ _ _ _ _ _ (by omega), up_n _ _ _ _ _ _ (by omega), hF _ _ (by omega)]; exact c0
    · rw [el 2 (by omega), if_neg (by omega), if_neg (by omega), up_n _ _ _ _ _ _ (by omega), up_n _ _ _ _ _ _ (by omega), up_n _ _ _ _ _ _ (by omega), up_n _ _ _ _ _ _ (by omega), up_n _ _ _ _ _ _ (by omega), hF _ _ (by omega)]; exact c1
    · rw [el 3 (by omega), if_neg (by omega), if_neg (by omega), up_n _ _ _ _ _ _ (by omega), up_n _ _ _ _ _ _ (by omega), up_n _ _ _ _ _ _ (by omega), up_n _ _ _ _ _ _ (by omega), up_n _ _ _ _ _ _ (by omega), hF _ _ (by omega)]; exact c2
    · rw [el 4 (by omega), if_neg (by omega), if_neg (by omega), up_n _ _ _ _ _ _ (by omega), up_n _ _ _ _ _ _ (by omega), up_n _ _ _ _ _ _ (by omega), up_n _ _ _ _ _ _ (by omega), up_n _ _ _ _ _ _ (by omega), hF _ _ (by omega)]; exact c3
    · rw [el 5 (by omega), if_neg (by omega), if_neg (by omega), up_n _ _ _ _ _ _ (by omega), up_n _ _ _ _ _ _ (by omega), up_n _ _ _ _ _ _ (by omega), up_n _ _ _ _ _ _ (by omega), up_n _ _ _ _ _ _ (by omega), hF _ _ (by omega)]; exact c4
    · rw [up_n _ _ _ _ _ _ (by omega), up_n _ _ _ _ _ _ (by omega), up_n _ _ _ _ _ _ (by omega), up_n _ _ _ _ _ _ (by omega), up_n _ _ _ _ _ _ (by omega)]; exact hF _ _ (by omega)
    · rw [up_n _ _ _ _ _ _ (by omega), up_n _ _ _ _ _ _ (by omega), up_n _ _ _ _ _ _ (by omega), up_n _ _ _ _ _ _ (by omega), up_n _ _ _ _ _ _ (by omega)]; exact hF _ _ (by omega)
    · rw [up_n _ _ _ _ _ _ (by omega), up_n _ _ _ _ _ _ (by omega), up_n _ _ _ _ _ _ (by omega), up_n _ _ _ _ _ _ (by omega), up_n _ _ _ _ _ _ (by omega)]; exact hF _ _ (by omega)
    · rw [ec r2 z a ⟨p, x⟩, if_neg (by omega), if_neg (by omega), if_neg (by omega)]
    · rw [ec r 0 hr.1 (by omega), if_neg (by omega), if_neg (by omega), if_neg (by omega), up_n _ _ _ _ _ _ (by omega), up_n _ _ _ _ _ _ (by omega), up_n _ _ _ _ _ _ (by omega), up_n _ _ _ _ _ _ (by omega), up_n _ _ _ _ _ _ (by omega), hF _ _ (by omega)]; exact w27
    · rw [ec r 1 hr.1 (by omega), if_pos (by omega), up_n _ _ _ _ _ _ (by omega), up_n _ _ _ _ _ _ (by omega), up_n _ _ _ _ _ _ (by omega), up_s]
    · rw [ec r 2 hr.1 (by omega), if_neg (by omega), if_pos (by omega), up_n _ _ _ _ _ _ (by omega), up_s]
    · exact absurd (by rw [ec r 2 hr.1 (by omega), if_neg (by omega), if_pos (by omega)]) q
    · rw [ec r 4 hr.1 (by omega), if_pos (by omega), up_n _ _ _ _ _ _ (by omega), up_n _ _ _ _ _ _ (by omega), up_s]
    · rw [ec r 0 hr.1 (by omega), if_neg (by omega), if_neg (by omega), if_neg (by omega)] at b
      rw [ec r (5 + k) hr.1 (by omega), if_neg (by omega), if_neg (by omega), if_neg (by omega), up_n _ _ _ _ _ _ (by omega), up_n _ _ _ _ _ _ (by omega), up_n _ _ _ _ _ _ (by omega), up_n _ _ _ _ _ _ (by omega), up_n _ _ _ _ _ _ (by omega), hF _ _ (by omega)]; exact wB k a b
    · rw [ec r 1 hr.1 (by omega), if_pos (by omega)] at b
      omega
    · unfold inW at hb
      rw [up_n _ _ _ _ _ _ (by omega), up_n _ _ _ _ _ _ (by omega), up_n _ _ _ _ _ _ (by omega), up_n _ _ _ _ _ _ (by omega), up_n _ _ _ _ _ _ (by omega)]; exact hF _ _ (by omega)
  have h0 : 0 ≤ g 0 ∧ g 0 ≤ 1000 := hG.h0
  by_cases y : cel g r 2 = -1
  · obtain ⟨k1, k2⟩ := key (D w 15) (by rw [if_pos y, d15])
    have e15 : up D w 15 (D w 15) = D := by
      funext b z
      unfold up
      split
      · rename_i q; rw [q.1, q.2]
      · rfl
    rw [e15] at k1 k2
    refine ⟨_, ?_, k1, k2⟩
    simp (disch := first | assumption | omega) only [fX19_unlock, wdR1, wdR2, wdR3, wdR4, wdR5, wdR6, wdR7, wdR8, wdR9, wdR10, wdR11, wdR12, wdR13, wdI14, wdS14, wdI15, wdS15, wdA3, wdU3, wdA4, wdU4, wdA5, wdU5, wdA6, wdU6, wdA7, wdU7, wdA8, wdU8, wdA27, wdU27, wdA28, wdU28, wdA29, wdU29, wdA30, wdU30, wdA31, wdU31, wdB, wdP, wdAB, wdUB, wdAP, wdUP, wdV, drV, drR0, drI1, drS1, k_C, ↓reduceIte, tr_lt, fa_lt, tr_le, fa_le, tr_eq, fa_eq, and_true, true_and, and_false, false_and, il0, il1, il2, il3, il4, il5, il6, il7, il8, il9, il10, il11, il12, il15, il16, il20, il24, il31, il32, il44, il45, il48, il50, il57, il58, il59, il63, il91, il93, il97, il99, il100, il109, il113, il119, il120, il122, il200, il255, il480, il500, il501, il512, il999, il4112, il41120, il1000000, il1000003, ii_add, ii_sub, ii_mul, ii_neg, ii_le, ii_lt, ii_eq, ii_div, q_I, q_V, q_R, lt_q, rZ_q, md_M, md_16, md_4, md_8, md_10, if_true, if_false, if_pos, if_neg, w28, e1]
    simp (disch := first | assumption | omega) only [fX19_unlock_37, fX19_unlock_70, wdR1, wdR2, wdR3, wdR4, wdR5, wdR6, wdR7, wdR8, wdR9, wdR10, wdR11, wdR12, wdR13, wdI14, wdS14, wdI15, wdS15, wdA3, wdU3, wdA4, wdU4, wdA5, wdU5, wdA6, wdU6, wdA7, wdU7, wdA8, wdU8, wdA27, wdU27, wdA28, wdU28, wdA29, wdU29, wdA30, wdU30, wdA31, wdU31, wdB, wdP, wdAB, wdUB, wdAP, wdUP, wdV, drV, drR0, drI1, drS1, k_C, ↓reduceIte, tr_lt, fa_lt, tr_le, fa_le, tr_eq, fa_eq, and_true, true_and, and_false, false_and, il0, il1, il2, il3, il4, il5, il6, il7, il8, il9, il10, il11, il12, il15, il16, il20, il24, il31, il32, il44, il45, il48, il50, il57, il58, il59, il63, il91, il93, il97, il99, il100, il109, il113, il119, il120, il122, il200, il255, il480, il500, il501, il512, il999, il4112, il41120, il1000000, il1000003, ii_add, ii_sub, ii_mul, ii_neg, ii_le, ii_lt, ii_eq, ii_div, q_I, q_V, q_R, lt_q, rZ_q, md_M, md_16, md_4, md_8, md_10, if_true, if_false, if_pos, if_neg, up_s, up_n, d29, y]
  · obtain ⟨k1, k2⟩ := key (g 0 + 1) (by rw [if_neg y])
    have e15 : up (up (up (up (up D (w + 28) r 0) (w + 31) r 0) w 15 (g 0 + 1)) (w + 29) r (-1)) (w + 30) r 0 = up (up (up (up (up D w 15 (g 0 + 1)) (w + 28) r 0) (w + 31) r 0) (w + 29) r (-1)) (w + 30) r 0 := by
      rw [up_comm (up D (w + 28) r 0) (by omega), up_comm D (by omega)]
    rw [← e15] at k1 k2
    refine ⟨_, ?_, k1, k2⟩
    simp (disch := first | assumption | omega) only [fX19_unlock, wdR1, wdR2, wdR3, wdR4, wdR5, wdR6, wdR7, wdR8, wdR9, wdR10, wdR11, wdR12, wdR13, wdI14, wdS14, wdI15, wdS15, wdA3, wdU3, wdA4, wdU4, wdA5, wdU5, wdA6, wdU6, wdA7, wdU7, wdA8, wdU8, wdA27, wdU27, wdA28, wdU28, wdA29, wdU29, wdA30, wdU30, wdA31, wdU31, wdB, wdP, wdAB, wdUB, wdAP, wdUP, wdV, drV, drR0, drI1, drS1, k_C, ↓reduceIte, tr_lt, fa_lt, tr_le, fa_le, tr_eq, fa_eq, and_true, true_and, and_false, false_and, il0, il1, il2, il3, il4, il5, il6, il7, il8, il9, il10, il11, il12, il15, il16, il20, il24, il31, il32, il44, il45, il48, il50, il57, il58, il59, il63, il91, il93, il97, il99, il100, il109, il113, il119, il120, il122, il200, il255, il480, il500, il501, il512, il999, il4112, il41120, il1000000, il1000003, ii_add, ii_sub, ii_mul, ii_neg, ii_le, ii_lt, ii_eq, ii_div, q_I, q_V, q_R, lt_q, rZ_q, md_M, md_16, md_4, md_8, md_10, if_true, if_false, if_pos, if_neg, w28, e1]
    simp (disch := first | assumption | omega) only [fX19_unlock_37, fX19_unlock_70, wdR1, wdR2, wdR3, wdR4, wdR5, wdR6, wdR7, wdR8, wdR9, wdR10, wdR11, wdR12, wdR13, wdI14, wdS14, wdI15, wdS15, wdA3, wdU3, wdA4, wdU4, wdA5, wdU5, wdA6, wdU6, wdA7, wdU7, wdA8, wdU8, wdA27, wdU27, wdA28, wdU28, wdA29, wdU29, wdA30, wdU30, wdA31, wdU31, wdB, wdP, wdAB, wdUB, wdAP, wdUP, wdV, drV, drR0, drI1, drS1, k_C, ↓reduceIte, tr_lt, fa_lt, tr_le, fa_le, tr_eq, fa_eq, and_true, true_and, and_false, false_and, il0, il1, il2, il3, il4, il5, il6, il7, il8, il9, il10, il11, il12, il15, il16, il20, il24, il31, il32, il44, il45, il48, il50, il57, il58, il59, il63, il91, il93, il97, il99, il100, il109, il113, il119, il120, il122, il200, il255, il480, il500, il501, il512, il999, il4112, il41120, il1000000, il1000003, ii_add, ii_sub, ii_mul, ii_neg, ii_le, ii_lt, ii_eq, ii_div, q_I, q_V, q_R, lt_q, rZ_q, md_M, md_16, md_4, md_8, md_10, if_true, if_false, if_pos, if_neg, up_s, up_n, d29, d15]
end WCH
