/-! THE LAW'S WORLD: a copy -/
section WCP
variable {c c' : CC} {A A' : AI} {J J' : JI} {w v : Nat} {M : AI} {o g : Int → Int} {r B : Int}
theorem isWorld.kj {j : Nat} (h : isWorld c w) (k : KJ v j c c' A A' J J') (hwv : w + 32 ≤ v) : isWorld c' w := by
  obtain ⟨⟨a1, a2, a3, a4, a5, a6, a7, a8, a9, a10, a11, a12, a13, a14⟩, ⟨b1, b2, b3, b4, b5, b6, b7, b8, b9, b10, b11, b12, b13⟩, h3⟩ := h
  have n0 : w ≠ v := by omega
  have P : ∀ {i q : Nat}, ptr c w i q → ptr c' w i q := fun x => k.ptr x a1.1 (Or.inl n0)
  exact ⟨⟨k.okc a1, k.okc a2, k.okc a3, k.okc a4, k.okc a5, k.okc a6, k.okc a7, k.okc a8, k.okc a9, k.okc a10, k.okc a11, k.okc a12, k.okc a13, k.okc a14⟩, ⟨P b1, P b2, P b3, P b4, P b5, P b6, P b7, P b8, P b9, P b10, P b11, P b12, P b13⟩, fun r x y => ⟨⟨k.ptr (h3 r x y).1.1 a8.1 (Or.inl (by omega)), k.okc (h3 r x y).1.2⟩, k.ptr (h3 r x y).2.1 a9.1 (Or.inl (by omega)), k.okc (h3 r x y).2.2⟩⟩
theorem k_cpL {a0 a n0 n1 : Nat} (h0 : okc c a0 100 n0) (h : okc c a 100 n1) (n : Int) (hn : (0 ≤ n ∧ n ≤ n0) ∧ n ≤ n1 ∧ n < 2147483648) (k : AS → Option AR) : cpI 100 .int (CW c A J) a0 0 a 0 (ii n) k = k (CW c (cpA A a0 a n) J) := k_cp h0 h n hn k
theorem fits_Z (x : Int) (h : 0 ≤ x ∧ x ≤ 1) : fits .boolean (.int (ii x)) = true := by
  rcases (show x = 0 ∨ x = 1 by omega) with rfl | rfl <;> rfl
theorem k_cpZ {a0 a n0 n1 : Nat} (h0 : okc c a0 101 n0) (h : okc c a 101 n1) (n : Int) (hn : (0 ≤ n ∧ n ≤ n0) ∧ n ≤ n1 ∧ n < 2147483648) (hb : ∀ i, 0 ≤ i → i < n → 0 ≤ A a0 i ∧ A a0 i ≤ 1) (k : AS → Option AR) : cpI 101 .boolean (CW c A J) a0 0 a 0 (ii n) k = k (CW c (cpA A a0 a n) J) := by
  have e0 : (0 : Int32).toNatClampNeg = 0 := rfl
  have en : (ii n).toNatClampNeg = n.toNat := ii_tn _ (by omega)
  have l2 : ¬ ii n < (0 : Int32) := by rw [il0, ii_lt _ _ (by omega)]; omega
  have H0 : ax_H (CW c A J) a0 = (101, n0) := h0.2
  have H1 : ax_H (CW c A J) a = (101, n1) := h.2
  unfold cpI
  rw [e0, en, H0, H1]
  refine (if_pos ⟨⟨h0.1, rfl, h.1, rfl⟩, ⟨by decide, by decide, l2, by dsimp only; omega, by dsimp only; omega⟩, Or.inr ?_⟩).trans ?_
  · refine congrArg k (Prod.ext (funext fun b => funext fun i => ?_) rfl)
    show (if b = a then va_cpy (fun j => ii (A a0 (j : Int))) (fun j => ii (A a (j : Int))) 0 0 n.toNat i else ii (A b (i : Int))) = ii (cpA A a0 a n b (i : Int))
    unfold va_cpy cpA
    by_cases q : b = a
    · subst q
      rw [if_pos rfl]
      by_cases u : 0 ≤ i ∧ i < 0 + n.toNat
      · rw [if_pos u, if_pos ⟨rfl, by omega, by omega⟩]
        dsimp only
        rw [show ((0 + (i - 0) : Nat) : Int) = (i : Int) by omega]
      · rw [if_neg u, if_neg (fun z => u (by omega))]
    · rw [if_neg q, if_neg (fun z => q z.1)]
  · rw [List.all_eq_true]
    intro i hi
    rw [List.mem_range] at hi
    show fits .boolean (.int (ii (A a0 ((0 + i : Nat) : Int)))) = true
    exact fits_Z _ (hb _ (by omega) (by omega))
theorem n_copy (hW : isWorld c w) (hR : WR w A M o g) (hM : SA M) (hG : GC M g B) (h4 : M 0 9 ≤ 4) (hv : okc c v 13 16) (hz : c.2.2.1 = v + 1) (hwv : w + 32 ≤ v) (hz2 : v + 40 < 900000) :
    ∃ (c' : CC) (A' : AI) (J' : JI), fX19_init_ v w (CW c A J) = some (Sum.inl none, CW c' A' J') ∧ isWorld c' v ∧ WR v A' M o g ∧ (c'.2.2.1 = v + 32 ∧ c'.2.2.2.1 = c.2.2.2.1 + 31 ∧ c.2.2.2.2 ≤ c'.2.2.2.2 ∧ c'.2.2.2.2 ≤ c.2.2.2.2 + 6000) ∧ ((∀ a, a < v → c'.2.1 a = c.2.1 a) ∧ ∀ a i, a < v → c'.1 a i = c.1 a i) ∧ (∀ (b : Nat) (z : Int), b < v → A' b z = A b z) ∧ ∀ b j : Nat, b < v → J' b j = J b j := by
  have h38 := hM.1.2.1
  obtain ⟨c1, A1, J1, tv, cap, k1, W1, K1, z1, -, h0⟩ := n_alloc (A := A) (J := J) hv hz hz2
  have W0 := hW.kj K1 hwv
  obtain ⟨⟨a1, a2, a3, a4, a5, a6, a7, a8, a9, a10, a11, a12, a13, a14⟩, -, w3⟩ := id W0
  obtain ⟨⟨b1, b2, b3, b4, b5, b6, b7, b8, b9, b10, b11, b12, b13, b14⟩, -, v3⟩ := id W1
  have fA : ∀ (b : Nat) (z : Int), b < v → A1 b z = A b z := fun b z x => K1.2.2.2.1 b z (by omega)
  have hR1 : WR w A1 M o g := hR.fr (fun b z x => fA b z (by unfold inW at x; omega)) h38.2
  obtain ⟨⟨⟨s0, s1, s2, s3, s4, s5, s6⟩, sK, sQ⟩, hKd, ⟨q0, q1, q2, q3, q4⟩, hRo, hOr, hZ⟩ := id hR1
  -- the first six
  obtain ⟨E1, hE1⟩ : ∃ E, E = cpA A1 (w + 3) (v + 3) 8 := ⟨_, rfl⟩
  obtain ⟨E2, hE2⟩ : ∃ E, E = cpA E1 (w + 4) (v + 4) 4 := ⟨_, rfl⟩
  obtain ⟨E3, hE3⟩ : ∃ E, E = cpA E2 (w + 5) (v + 5) 4 := ⟨_, rfl⟩
  obtain ⟨E4, hE4⟩ : ∃ E, E = cpA E3 (w + 6) (v + 6) 4 := ⟨_, rfl⟩
  obtain ⟨E5, hE5⟩ : ∃ E, E = cpA E4 (w + 7) (v + 7) 6 := ⟨_, rfl⟩
  obtain ⟨E6, hE6⟩ : ∃ E, E = cpA E5 (w + 8) (v + 8) 4 := ⟨_, rfl⟩
  have g6 : ∀ (b : Nat) (z : Int), (b < v + 3 ∨ v + 8 < b) → E6 b z = A1 b z := fun b z x => by
    rw [hE6, cpA_n _ _ _ _ _ _ (by omega), hE5, cpA_n _ _ _ _ _ _ (by omega), hE4, cpA_n _ _ _ _ _ _ (by omega), hE3, cpA_n _ _ _ _ _ _ (by omega), hE2, cpA_n _ _ _ _ _ _ (by omega), hE1, cpA_n _ _ _ _ _ _ (by omega)]
  have t3 : ∀ z : Int, 0 ≤ z → z < 8 → E6 (v + 3) z = A1 (w + 3) z := fun z x y => by
    rw [hE6, cpA_n _ _ _ _ _ _ (by omega), hE5, cpA_n _ _ _ _ _ _ (by omega), hE4, cpA_n _ _ _ _ _ _ (by omega), hE3, cpA_n _ _ _ _ _ _ (by omega), hE2, cpA_n _ _ _ _ _ _ (by omega), hE1, cpA_s _ _ _ _ _ ⟨x, y⟩]
  have t4 : ∀ z : Int, 0 ≤ z → z < 4 → E6 (v + 4) z = A1 (w + 4) z := fun z x y => by
    rw [hE6, cpA_n _ _ _ _ _ _ (by omega), hE5, cpA_n _ _ _ _ _ _ (by omega), hE4, cpA_n _ _ _ _ _ _ (by omega), hE3, cpA_n _ _ _ _ _ _ (by omega), hE2, cpA_s _ _ _ _ _ ⟨x, y⟩, hE1, cpA_n _ _ _ _ _ _ (by omega)]
  have t5 : ∀ z : Int, 0 ≤ z → z < 4 → E6 (v + 5) z = A1 (w + 5) z := fun z x y => by
    rw [hE6, cpA_n _ _ _ _ _ _ (by omega), hE5, cpA_n _ _ _ _ _ _ (by omega), hE4, cpA_n _ _ _ _ _ _ (by omega), hE3, cpA_s _ _ _ _ _ ⟨x, y⟩, hE2, cpA_n _ _ _ _ _ _ (by omega), hE1, cpA_n _ _ _ _ _ _ (by omega)]
  have t6 : ∀ z : Int, 0 ≤ z → z < 4 → E6 (v + 6) z = A1 (w + 6) z := fun z x y => by
    rw [hE6, cpA_n _ _ _ _ _ _ (by omega), hE5, cpA_n _ _ _ _ _ _ (by omega), hE4, cpA_s _ _ _ _ _ ⟨x, y⟩, hE3, cpA_n _ _ _ _ _ _ (by omega), hE2, cpA_n _ _ _ _ _ _ (by omega), hE1, cpA_n _ _ _ _ _ _ (by omega)]
  have t7 : ∀ z : Int, 0 ≤ z → z < 6 → E6 (v + 7) z = A1 (w + 7) z := fun z x y => by
    rw [hE6, cpA_n _ _ _ _ _ _ (by omega), hE5, cpA_s _ _ _ _ _ ⟨x, y⟩, hE4, cpA_n _ _ _ _ _ _ (by omega), hE3, cpA_n _ _ _ _ _ _ (by omega), hE2, cpA_n _ _ _ _ _ _ (by omega), hE1, cpA_n _ _ _ _ _ _ (by omega)]
  have t8 : ∀ z : Int, 0 ≤ z → z < 4 → E6 (v + 8) z = A1 (w + 8) z := fun z x y => by
    rw [hE6, cpA_s _ _ _ _ _ ⟨x, y⟩, hE5, cpA_n _ _ _ _ _ _ (by omega), hE4, cpA_n _ _ _ _ _ _ (by omega), hE3, cpA_n _ _ _ _ _ _ (by omega), hE2, cpA_n _ _ _ _ _ _ (by omega), hE1, cpA_n _ _ _ _ _ _ (by omega)]
  have z8 : ∀ i : Int, 0 ≤ i → i < 4 → 0 ≤ E5 (w + 8) i ∧ E5 (w + 8) i ≤ 1 := fun i x y => by
    rw [hE5, cpA_n _ _ _ _ _ _ (by omega), hE4, cpA_n _ _ _ _ _ _ (by omega), hE3, cpA_n _ _ _ _ _ _ (by omega), hE2, cpA_n _ _ _ _ _ _ (by omega), hE1, cpA_n _ _ _ _ _ _ (by omega)]
    exact hZ i x y
  have hst : fX19_init_ v w (CW c A J) = fX19_init__214 FU v w (ii 0) (CW c1 E6 J1) := by
    unfold fX19_init_
    refine (k1 _).trans ?_
    rw [wdR1 W0, wdR1 W1, show (8 : Int32) = ii 8 from rfl, k_cpL a2 b2 8 (by omega), ← hE1, wdR2 W0, wdR2 W1, show (4 : Int32) = ii 4 from rfl, k_cpL a3 b3 4 (by omega), ← hE2, wdR3 W0, wdR3 W1, k_cpL a4 b4 4 (by omega), ← hE3, wdR4 W0, wdR4 W1, k_cpL a5 b5 4 (by omega), ← hE4, wdR5 W0, wdR5 W1, show (6 : Int32) = ii 6 from rfl, k_cpL a6 b6 6 (by omega), ← hE5, wdR6 W0, wdR6 W1, k_cpZ a7 b7 4 (by omega) z8, ← hE6]
    rfl
  have hlp : ∃ s : AI, fX19_init__214 FU v w (ii 0) (CW c1 E6 J1) = fX19_init__272 v w (CW c1 s J1) ∧ (∀ r2 z : Int, 0 ≤ r2 → r2 < M 0 3 → 0 ≤ z → z < 6 → s (v + 10 + r2.toNat) z = A1 (w + 10 + r2.toNat) z) ∧ (∀ r2 z : Int, 0 ≤ r2 → r2 < M 0 3 → 0 ≤ z → z < cel g r2 1 → s (v + 19 + r2.toNat) z = A1 (w + 19 + r2.toNat) z) ∧ ∀ (b : Nat) (z : Int), (b < v + 10 ∨ v + 27 ≤ b ∨ b = v + 18) → s b z = E6 b z := by
    refine lp (fun f r (s : AI) => fX19_init__214 f v w (ii r) (CW c1 s J1)) (fun x => ∃ s : AI, x = fX19_init__272 v w (CW c1 s J1) ∧ (∀ r2 z : Int, 0 ≤ r2 → r2 < M 0 3 → 0 ≤ z → z < 6 → s (v + 10 + r2.toNat) z = A1 (w + 10 + r2.toNat) z) ∧ (∀ r2 z : Int, 0 ≤ r2 → r2 < M 0 3 → 0 ≤ z → z < cel g r2 1 → s (v + 19 + r2.toNat) z = A1 (w + 19 + r2.toNat) z) ∧ ∀ (b : Nat) (z : Int), (b < v + 10 ∨ v + 27 ≤ b ∨ b = v + 18) → s b z = E6 b z)
      (fun r s => 0 ≤ r ∧ (∀ r2 z : Int, 0 ≤ r2 → r2 < r → 0 ≤ z → z < 6 → s (v + 10 + r2.toNat) z = A1 (w + 10 + r2.toNat) z) ∧ (∀ r2 z : Int, 0 ≤ r2 → r2 < r → 0 ≤ z → z < cel g r2 1 → s (v + 19 + r2.toNat) z = A1 (w + 19 + r2.toNat) z) ∧ ∀ (b : Nat) (z : Int), (b < v + 10 ∨ v + 27 ≤ b ∨ b = v + 18) → s b z = E6 b z) (M 0 3) ?_ ?_ FU 0 E6 (by omega) ⟨by omega, fun _ _ _ _ => by omega, fun _ _ _ _ => by omega, fun _ _ _ => rfl⟩ (by have := FU_e; omega)
    · rintro f r s hr ⟨hI, i1, i2, i3⟩
      have hgr := hG.1.1 r hI (by omega)
      have hg1 := hgr.2.1
      have e1 : s (v + 3) 1 = M 0 3 := by rw [i3 _ _ (by omega), t3 1 (by omega) (by omega)]; exact s1
      have e2 : s (w + 28) r = cel g r 1 := by rw [i3 _ _ (by omega), g6 _ _ (by omega)]; exact (hRo r hI hr).1.2.1
      have hwb := (w3 r hI (by omega)).1.2
      have hvb := (v3 r hI (by omega)).1.2
      have hwp := (w3 r hI (by omega)).2.2
      have hvp := (v3 r hI (by omega)).2.2
      have e3 : cpA s (w + 10 + r.toNat) (v + 10 + r.toNat) 6 (w + 28) r = cel g r 1 := by rw [cpA_n _ _ _ _ _ _ (by omega)]; exact e2
      refine Or.inr ⟨cpA (cpA s (w + 10 + r.toNat) (v + 10 + r.toNat) 6) (w + 19 + r.toNat) (v + 19 + r.toNat) (cel g r 1), ⟨by omega, fun r2 z x1 x2 x3 x4 => ?_, fun r2 z x1 x2 x3 x4 => ?_, fun b z x => ?_⟩, ?_⟩
      · rw [cpA_n _ _ _ _ _ _ (by omega)]
        by_cases y : r2 = r
        · rw [y, cpA_s _ _ _ _ _ ⟨x3, x4⟩, i3 _ _ (by omega), g6 _ _ (by omega)]
        · rw [cpA_n _ _ _ _ _ _ (by omega)]; exact i1 r2 z x1 (by omega) x3 x4
      · by_cases y : r2 = r
        · rw [y, cpA_s _ _ _ _ _ ⟨x3, by rw [← y]; exact x4⟩, cpA_n _ _ _ _ _ _ (by omega), i3 _ _ (by omega), g6 _ _ (by omega)]
        · rw [cpA_n _ _ _ _ _ _ (by omega), cpA_n _ _ _ _ _ _ (by omega)]; exact i2 r2 z x1 (by omega) x3 x4
      · rw [cpA_n _ _ _ _ _ _ (by omega), cpA_n _ _ _ _ _ _ (by omega)]; exact i3 b z x
      · rw [fX19_init__214, wdR1 W1, show (1 : Int32) = ii 1 from rfl, wdA3 W1 1 _ (by omega), e1, if_neg (by rw [ii_le _ _ (by omega)]; omega), wdR7 W0, wdB W0 r _ (by omega), wdR7 W1, wdB W1 r _ (by omega), show (6 : Int32) = ii 6 from rfl, k_cpL hwb hvb 6 (by omega), wdR8 W0, wdP W0 r _ (by omega), wdR8 W1, wdP W1 r _ (by omega), wdR10 W0, wdA28 W0 r _ (by omega), e3, k_cpL hwp hvp _ (by omega), lt_q, ii_add]
    · rintro f s ⟨hI, i1, i2, i3⟩
      have e1 : s (v + 3) 1 = M 0 3 := by rw [i3 _ _ (by omega), t3 1 (by omega) (by omega)]; exact s1
      refine ⟨s, ?_, fun r2 z x1 x2 x3 x4 => i1 r2 z x1 x2 x3 x4, fun r2 z x1 x2 x3 x4 => i2 r2 z x1 x2 x3 x4, i3⟩
      rw [fX19_init__214, wdR1 W1, show (1 : Int32) = ii 1 from rfl, wdA3 W1 1 _ (by omega), e1, if_pos (Int32.le_refl _)]
  obtain ⟨s, h214, i1, i2, i3⟩ := hlp
  obtain ⟨G1, hG1⟩ : ∃ E, E = cpA s (w + 27) (v + 27) 8 := ⟨_, rfl⟩
  obtain ⟨G2, hG2⟩ : ∃ E, E = cpA G1 (w + 28) (v + 28) 8 := ⟨_, rfl⟩
  obtain ⟨G3, hG3⟩ : ∃ E, E = cpA G2 (w + 29) (v + 29) 8 := ⟨_, rfl⟩
  obtain ⟨G4, hG4⟩ : ∃ E, E = cpA G3 (w + 30) (v + 30) 8 := ⟨_, rfl⟩
  obtain ⟨G5, hG5⟩ : ∃ E, E = cpA G4 (w + 31) (v + 31) 8 := ⟨_, rfl⟩
  obtain ⟨G, hGf⟩ : ∃ E, E = up (up G5 v 14 (M 0 9)) v 15 (g 0) := ⟨_, rfl⟩
  have gN : ∀ (b : Nat) (z : Int), b ≠ v → (b < v + 27 ∨ v + 31 < b) → G b z = s b z := fun b z x y => by
    rw [hGf, up_n _ _ _ _ _ _ (by omega), up_n _ _ _ _ _ _ (by omega), hG5, cpA_n _ _ _ _ _ _ (by omega), hG4, cpA_n _ _ _ _ _ _ (by omega), hG3, cpA_n _ _ _ _ _ _ (by omega), hG2, cpA_n _ _ _ _ _ _ (by omega), hG1, cpA_n _ _ _ _ _ _ (by omega)]
  have u27 : ∀ z : Int, 0 ≤ z → z < 8 → G (v + 27) z = A1 (w + 27) z := fun z x y => by
    rw [hGf, up_n _ _ _ _ _ _ (by omega), up_n _ _ _ _ _ _ (by omega), hG5, cpA_n _ _ _ _ _ _ (by omega), hG4, cpA_n _ _ _ _ _ _ (by omega), hG3, cpA_n _ _ _ _ _ _ (by omega), hG2, cpA_n _ _ _ _ _ _ (by omega), hG1, cpA_s _ _ _ _ _ ⟨x, y⟩, i3 _ _ (by omega), g6 _ _ (by omega)]
  have u28 : ∀ z : Int, 0 ≤ z → z < 8 → G (v + 28) z = A1 (w + 28) z := fun z x y => by
    rw [hGf, up_n _ _ _ _ _ _ (by omega), up_n _ _ _ _ _ _ (by omega), hG5, cpA_n _ _ _ _ _ _ (by omega), hG4, cpA_n _ _ _ _ _ _ (by omega), hG3, cpA_n _ _ _ _ _ _ (by omega), hG2, cpA_s _ _ _ _ _ ⟨x, y⟩, hG1, cpA_n _ _ _ _ _ _ (by omega), i3 _ _ (by omega), g6 _ _ (by omega)]
  have u29 : ∀ z : Int, 0 ≤ z → z < 8 → G (v + 29) z = A1 (w + 29) z := fun z x y => by
    rw [hGf, up_n _ _ _ _ _ _ (by omega), up_n _ _ _ _ _ _ (by omega), hG5, cpA_n _ _ _ _ _ _ (by omega), hG4, cpA_n _ _ _ _ _ _ (by omega), hG3, cpA_s _ _ _ _ _ ⟨x, y⟩, hG2, cpA_n _ _ _ _ _ _ (by omega), hG1, cpA_n _ _ _ _ _ _ (by omega), i3 _ _ (by omega), g6 _ _ (by omega)]
  have u30 : ∀ z : Int, 0 ≤ z → z < 8 → G (v + 30) z = A1 (w + 30) z := fun z x y => by
    rw [hGf, up_n _ _ _ _ _ _ (by omega), up_n _ _ _ _ _ _ (by omega), hG5, cpA_n _ _ _ _ _ _ (by omega), hG4, cpA_s _ _ _ _ _ ⟨x, y⟩, hG3, cpA_n _ _ _ _ _ _ (by omega), hG2, cpA_n _ _ _ _ _ _ (by omega), hG1, cpA_n _ _ _ _ _ _ (by omega), i3 _ _ (by omega), g6 _ _ (by omega)]
  have u31 : ∀ z : Int, 0 ≤ z → z < 8 → G (v + 31) z = A1 (w + 31) z := fun z x y => by
    rw [hGf, up_n _ _ _ _ _ _ (by omega), up_n _ _ _ _ _ _ (by omega), hG5, cpA_s _ _ _ _ _ ⟨x, y⟩, hG4, cpA_n _ _ _ _ _ _ (by omega), hG3, cpA_n _ _ _ _ _ _ (by omega), hG2, cpA_n _ _ _ _ _ _ (by omega), hG1, cpA_n _ _ _ _ _ _ (by omega), i3 _ _ (by omega), g6 _ _ (by omega)]
  have sw : ∀ z : Int, s w z = A1 w z := fun z => by rw [i3 _ _ (by omega), g6 _ _ (by omega)]
  have e14 : G5 w 14 = M 0 9 := by rw [hG5, cpA_n _ _ _ _ _ _ (by omega), hG4, cpA_n _ _ _ _ _ _ (by omega), hG3, cpA_n _ _ _ _ _ _ (by omega), hG2, cpA_n _ _ _ _ _ _ (by omega), hG1, cpA_n _ _ _ _ _ _ (by omega), sw]; exact sK
  have e15 : up G5 v 14 (M 0 9) w 15 = g 0 := by rw [up_n _ _ _ _ _ _ (by omega), hG5, cpA_n _ _ _ _ _ _ (by omega), hG4, cpA_n _ _ _ _ _ _ (by omega), hG3, cpA_n _ _ _ _ _ _ (by omega), hG2, cpA_n _ _ _ _ _ _ (by omega), hG1, cpA_n _ _ _ _ _ _ (by omega), sw]; exact sQ
  have h272 : fX19_init__272 v w (CW c1 s J1) = some (Sum.inl none, CW c1 G J1) := by
    rw [fX19_init__272, wdR9 W0, wdR9 W1, show (8 : Int32) = ii 8 from rfl, k_cpL a10 b10 8 (by omega), ← hG1, wdR10 W0, wdR10 W1, k_cpL a11 b11 8 (by omega), ← hG2, wdR11 W0, wdR11 W1, k_cpL a12 b12 8 (by omega), ← hG3, wdR12 W0, wdR12 W1, k_cpL a13 b13 8 (by omega), ← hG4, wdR13 W0, wdR13 W1, k_cpL a14 b14 8 (by omega), ← hG5, wdI14 W0, e14, wdS14 W1, wdI15 W0, e15, wdS15 W1, ← hGf]
  have lA : ∀ (b : Nat) (z : Int), b < v → G b z = A b z := fun b z x => by rw [gN b z (by omega) (by omega), i3 _ _ (by omega), g6 _ _ (by omega)]; exact fA b z x
  refine ⟨c1, G, J1, by rw [hst, h214, h272], W1, ⟨⟨⟨?_, ?_, ?_, ?_, ?_, ?_, ?_⟩, ?_, ?_⟩, fun k a b => ⟨?_, ?_, ?_⟩, ⟨?_, ?_, ?_, ?_, ?_⟩, fun r a b => ?_, fun p a b => ?_, fun k a b => ?_⟩, ⟨z1.1, z1.2.1, K1.1.2.2, z1.2.2⟩, ⟨fun a x => K1.2.1 a (by omega), fun a i x => K1.2.2.1 a i (by omega) (Or.inl (by omega))⟩, lA, fun b j x => K1.2.2.2.2 b j (by omega)⟩
  · rw [gN _ _ (by omega) (by omega), i3 _ _ (by omega), t3 0 (by omega) (by omega)]; exact s0
  · rw [gN _ _ (by omega) (by omega), i3 _ _ (by omega), t3 1 (by omega) (by omega)]; exact s1
  · rw [gN _ _ (by omega) (by omega), i3 _ _ (by omega), t3 2 (by omega) (by omega)]; exact s2
  · rw [gN _ _ (by omega) (by omega), i3 _ _ (by omega), t3 3 (by omega) (by omega)]; exact s3
  · rw [gN _ _ (by omega) (by omega), i3 _ _ (by omega), t3 4 (by omega) (by omega)]; exact s4
  · rw [gN _ _ (by omega) (by omega), i3 _ _ (by omega), t3 5 (by omega) (by omega)]; exact s5
  · rw [gN _ _ (by omega) (by omega), i3 _ _ (by omega), t3 6 (by omega) (by omega)]; exact s6
  · rw [hGf, up_n _ _ _ _ _ _ (by omega), up_s]
  · rw [hGf, up_s]
  · rw [gN _ _ (by omega) (by omega), i3 _ _ (by omega), t4 k (by omega) (by omega)]; exact (hKd k a b).1
  · rw [gN _ _ (by omega) (by omega), i3 _ _ (by omega), t8 k (by omega) (by omega)]; exact (hKd k a b).2.1
  · rw [gN _ _ (by omega) (by omega), i3 _ _ (by omega), t5 k (by omega) (by omega)]; exact (hKd k a b).2.2
  · rw [gN _ _ (by omega) (by omega), i3 _ _ (by omega), t7 0 (by omega) (by omega)]; exact q0
  · rw [gN _ _ (by omega) (by omega), i3 _ _ (by omega), t7 1 (by omega) (by omega)]; exact q1
  · rw [gN _ _ (by omega) (by omega), i3 _ _ (by omega), t7 2 (by omega) (by omega)]; exact q2
  · rw [gN _ _ (by omega) (by omega), i3 _ _ (by omega), t7 3 (by omega) (by omega)]; exact q3
  · rw [gN _ _ (by omega) (by omega), i3 _ _ (by omega), t7 4 (by omega) (by omega)]; exact q4
  · obtain ⟨⟨x1, x2, x3, x4, x5⟩, x6, x7⟩ := hRo r a b
    have hgr := hG.1.1 r a (by omega)
    have hg0 := hgr.1
    refine ⟨⟨?_, ?_, ?_, fun y => ?_, ?_⟩, fun k y1 y2 => ?_, fun k y1 y2 => ?_⟩
    · rw [u27 r (by omega) (by omega)]; exact x1
    · rw [u28 r (by omega) (by omega)]; exact x2
    · rw [u29 r (by omega) (by omega)]; exact x3
    · rw [u30 r (by omega) (by omega)]; exact x4 y
    · rw [u31 r (by omega) (by omega)]; exact x5
    · rw [gN _ _ (by omega) (by omega), i1 r k a b y1 (by omega)]; exact x6 k y1 y2
    · rw [gN _ _ (by omega) (by omega), i2 r k a b y1 y2]; exact x7 k y1 y2
  · rw [gN _ _ (by omega) (by omega), i3 _ _ (by omega), t6 p (by omega) (by omega)]; exact hOr p a b
  · rw [gN _ _ (by omega) (by omega), i3 _ _ (by omega), t8 k (by omega) (by omega)]; exact hZ k a b
end WCP
