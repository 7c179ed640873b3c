/-! LOAD: a text with an error -/
section LDB
variable {C0 N0 n : Nat} {K : Nat × Nat} {c c' : CC} {A A' : AI} {J : JI} {M M' N1 N2 : AI} {g g' g2 : Int → Int} {pl sp tv cap : Nat}
theorem ld_reads (K : Nat × Nat) (hI : Inv C0 N0 n pl sp tv cap c A J M g) (x : Int) (hx : 0 ≤ x ∧ x ≤ M 0 18) : ∃ (A' N1 N2 : AI) (g2 : Int → Int), fX2_readText 1 (ii x) sp 338 (CW c A J) = some (Sum.inl (some (Value.int (ii (if N2 0 26 = 0 then 1 else 0)))), CW c A' J) ∧ fX7_holds 0 (NW K (mg (up (up M 0 0 0) 0 18 0) g)) = some (Sum.inl none, NW K (mg N1 g)) ∧ fX7_reads 0 (ii x) (NW K (mg N1 g)) = some (Sum.inl none, NW K (mg N2 g2)) ∧ RTo A' N2 x ∧ (∀ (b : Nat) (z : Int), b ≠ 1 → b ≠ 1 + 2 → (b < sp ∨ sp + 4 ≤ b) → ¬ inS 338 b → A' b z = A b z) ∧ A' 1 2 = 0 ∧ (N2 0 26 = 0 → LdS A' J N2 g2 sp) ∧
    (N2 0 0 = 0 ∧ N2 0 18 = 0) ∧ (∀ z, ¬ (2 ≤ z ∧ z ≤ 9) → ¬ (21 ≤ z ∧ z ≤ 27) → z ≠ 32 → z ≠ 0 → z ≠ 18 → N2 0 z = M 0 z) ∧ (∀ (b : Nat) (z : Int), 0 < b → ¬ (8 ≤ b ∧ b ≤ 11) → ¬ ((b = 1 ∨ b = 2) ∧ 0 ≤ z ∧ z < 10) → N2 b z = M b z) ∧ (∀ k, 0 ≤ k → k < 4112 → N2 8 k = g k) ∧ (∀ k, 0 ≤ k → k < 10 → N2 10 k = M 2 k ∧ N2 11 k = M 1 k) ∧ ∀ j, 0 ≤ j → j < 8 → N2 9 j = M 0 (j + 2) := by
  have hk := hI.1
  have hh := hI.2.2.2.2.1
  have hb := hI.mbd
  have u0 : ∀ z, z ≠ 0 → z ≠ 18 → up (up M 0 0 0) 0 18 0 0 z = M 0 z := fun z p q => by rw [up_n _ _ _ _ _ _ (by omega), up_n _ _ _ _ _ _ (by omega)]
  have ub : ∀ (b : Nat) (z : Int), 0 < b → up (up M 0 0 0) 0 18 0 b z = M b z := fun b z p => by rw [up_n _ _ _ _ _ _ (by omega), up_n _ _ _ _ _ _ (by omega)]
  obtain ⟨N1, e1, h8, h10, h9, hf⟩ := m_holds (K := K) (M := up (up M 0 0 0) 0 18 0) (g := g) (fun k a b => by rw [ub 1 k (by omega)]; exact (hb k a b).1)
  obtain ⟨A', N2, g2, e2, e3, r2, f2, a2, fp, hL⟩ := p_reads (c := c) (A := A) (M := N1) (sp := sp) K J g hk.2.1.1 hk.2.1.2.2.2.2.1 hk.2.2.2.1.2.2 (by have := hk.2.2.2.1.1; omega) x (M 0 18) hh.1.1 ⟨hx.1, hx.2, hh.1.2.2⟩
    (fun k a b => by rw [hf 7 k (by omega), ub 7 k (by omega)]; exact hh.2.1 k a (by omega))
    (fun k a b => by rw [hf 1 k (by omega), hf 2 k (by omega), ub 1 k (by omega), ub 2 k (by omega)]; exact hb k a b)
  refine ⟨A', N1, N2, g2, e2, e1, e3, r2, f2, a2, hL, ⟨?_, ?_⟩, fun z p q r s t => ?_, fun b z p q r => ?_, fun k a b => ?_, fun k a b => ?_, fun j a b => ?_⟩
  · rw [fp.1 0 (by decide) (by decide) (by decide), hf 0 0 (by decide), up_n _ _ _ _ _ _ (by decide), up_s]
  · rw [fp.1 18 (by decide) (by decide) (by decide), hf 0 18 (by decide), up_s]
  · rw [fp.1 z p q r, hf 0 z (by decide), u0 z s t]
  · rw [fp.2 b z p r, hf b z q, ub b z p]
  · rw [fp.2 8 k (by decide) (by omega)]; exact h8 k a b
  · rw [fp.2 10 k (by decide) (by omega), fp.2 11 k (by decide) (by omega), (h10 k a b).1, (h10 k a b).2, ub 2 k (by decide), ub 1 k (by decide)]; exact ⟨rfl, rfl⟩
  · rw [fp.2 9 j (by decide) (by omega), h9 j a b, u0 _ (by omega) (by omega)]
theorem m_load (x : Int) (hx : 0 ≤ x ∧ x ≤ M 0 18) (h18 : 0 ≤ M 0 18 ∧ M 0 18 ≤ 500) (e1 : fX7_holds 0 (NW K (mg (up (up M 0 0 0) 0 18 0) g)) = some (Sum.inl none, NW K (mg N1 g))) (e2 : fX7_reads 0 (ii x) (NW K (mg N1 g)) = some (Sum.inl none, NW K (mg N2 g2))) (hb : 0 ≤ N2 0 26 ∧ N2 0 26 ≤ 5) : fX7_load 0 (ii x) (NW K (mg M g)) = fX7_load_86 0 0 (ii (if N2 0 26 = 0 then 0 else 1)) (NW K (mg (up (up N2 0 19 (N2 0 26)) 0 20 (if N2 0 26 = 0 then -1 else N2 0 27)) g2)) := by
  have h00 : up M 0 0 0 0 0 = 0 := up_s _ _ _ _
  have e18 : up M 0 0 0 0 18 = M 0 18 := up_n _ _ _ _ _ _ (by omega)
  have hin := e_in x 0 (M 0 18) (by omega) (NW K (mg (up M 0 0 0) g))
  rw [if_pos hx] at hin
  have e26 : up N2 0 19 (N2 0 26) 0 26 = N2 0 26 := up_n _ _ _ _ _ _ (by decide)
  have e27 : up N2 0 19 (N2 0 26) 0 27 = N2 0 27 := up_n _ _ _ _ _ _ (by decide)
  have e26' : ∀ v : Int, up (up N2 0 19 (N2 0 26)) 0 20 v 0 26 = N2 0 26 := fun v => by rw [up_n _ _ _ _ _ _ (by decide)]; exact e26
  rw [fX7_load, il0, il1, nS0, mg_upk _ _ _ _ _ (by decide), nI18, mg_0, e18, hin, nC, q_I, if_neg (by decide), fX7_load_23, il0, il1, ii_neg, nV, e_ref0 h00 1, nC, q_I, if_pos rfl, nS18, mg_upk _ _ _ _ _ (by decide), nV, e1, nC, q_V, nV, e2, nC, q_V, nI26, mg_0, nS19, mg_upk _ _ _ _ _ (by decide), nI26, mg_0, e26]
  by_cases q : N2 0 26 = 0
  · rw [if_pos (by rw [q]), if_pos q, if_pos q, fX7_load_70, il0, nS20, mg_upk _ _ _ _ _ (by decide), nI26, mg_0, e26', if_pos (by rw [q])]
  · rw [if_neg (by rw [ii_eq _ _ (by omega)]; exact q), if_neg q, if_neg q, nI27, mg_0, e27, fX7_load_70, il0, il1, nS20, mg_upk _ _ _ _ _ (by decide), nI26, mg_0, e26', if_neg (by rw [ii_eq _ _ (by omega)]; exact q)]
theorem g_load_1 (hI : Inv C0 N0 n pl sp tv cap c A J M g) (x : Int) (hx : 0 ≤ x ∧ x ≤ M 0 18) (e1 : fX2_readText 1 (ii x) sp 338 (CW c A J) = some (Sum.inl (some (Value.int (ii (if N2 0 26 = 0 then 1 else 0)))), CW c A' J)) (e2 : fX7_holds 0 (NW K (mg (up (up M 0 0 0) 0 18 0) g)) = some (Sum.inl none, NW K (mg N1 g))) (e3 : fX7_reads 0 (ii x) (NW K (mg N1 g)) = some (Sum.inl none, NW K (mg N2 g2))) (r : RTo A' N2 x) (fA : ∀ (b : Nat) (z : Int), b ≠ 1 → b ≠ 1 + 2 → (b < sp ∨ sp + 4 ≤ b) → ¬ inS 338 b → A' b z = A b z) (a2 : A' 1 2 = 0)
    (n0 : N2 0 0 = 0 ∧ N2 0 18 = 0) (nz : ∀ z, ¬ (2 ≤ z ∧ z ≤ 9) → ¬ (21 ≤ z ∧ z ≤ 27) → z ≠ 32 → z ≠ 0 → z ≠ 18 → N2 0 z = M 0 z) (nb : ∀ (b : Nat) (z : Int), 0 < b → ¬ (8 ≤ b ∧ b ≤ 11) → ¬ ((b = 1 ∨ b = 2) ∧ 0 ≤ z ∧ z < 10) → N2 b z = M b z) (n8 : ∀ k, 0 ≤ k → k < 4112 → N2 8 k = g k) (n10 : ∀ k, 0 ≤ k → k < 10 → N2 10 k = M 2 k ∧ N2 11 k = M 1 k) (n9 : ∀ j, 0 ≤ j → j < 8 → N2 9 j = M 0 (j + 2)) (q : N2 0 26 ≠ 0) : Good C0 N0 n K (fL_load 0 (ii x) 455 (CW c A J)) (fX7_load 0 (ii x) (NW K (mg M g))) := by
  have hk := hI.1
  have hRd : isReader c 1 := hk.2.1.1
  have hh := hI.2.2.2.2.1.1
  have hmb := hI.mbd
  have hrt : A' 1 3 = N2 0 26 ∧ A' 1 4 = N2 0 27 ∧ 0 ≤ N2 0 26 ∧ N2 0 26 ≤ 5 := ⟨r.2.2.1.1, r.2.2.1.2.1, r.2.2.1.2.2.1⟩
  have hl := m_load x hx hh.2 e2 e3 hrt.2.2
  rw [if_neg q, if_neg q] at hl
  rw [if_neg q] at e1
  obtain ⟨N3, hN3⟩ : ∃ N : AI, N = up (up N2 0 19 (N2 0 26)) 0 20 (N2 0 27) := ⟨_, rfl⟩
  rw [← hN3] at hl
  have z0 : N3 0 0 = 0 := by rw [hN3, up_n _ _ _ _ _ _ (by decide), up_n _ _ _ _ _ _ (by decide)]; exact n0.1
  have zz : ∀ z, z ≠ 19 → z ≠ 20 → N3 0 z = N2 0 z := fun z p q => by rw [hN3, up_n _ _ _ _ _ _ (by omega), up_n _ _ _ _ _ _ (by omega)]
  have zb : ∀ (b : Nat) (z : Int), 0 < b → up N3 0 0 2 b z = N2 b z := fun b z p => by rw [up_n _ _ _ _ _ _ (by omega), hN3, up_n _ _ _ _ _ _ (by omega), up_n _ _ _ _ _ _ (by omega)]
  have z19 : N3 0 19 = N2 0 26 := by rw [hN3, up_n _ _ _ _ _ _ (by decide), up_s]
  have z20 : N3 0 20 = N2 0 27 := by rw [hN3, up_s]
  have hrf := e_ref1 (K := K) (M := N3) (g := g2) z0 2 (by omega)
  obtain ⟨M4, g4, eb, b8, b10, b9, bf⟩ := m_back (K := K) (M := up N3 0 0 2) (g := g2) (fun k a b => by rw [zb 11 k (by omega), (n10 k a b).2]; exact (hmb k a b).1)
  have w0 : ∀ z, ¬ (2 ≤ z ∧ z ≤ 9) → z ≠ 0 → M4 0 z = N3 0 z := fun z p q => by rw [bf 0 z (by omega) (by omega), up_n _ _ _ _ _ _ (by omega)]
  have hI2 : Inv C0 N0 (n + 1) pl sp tv cap (cU c) A' J M4 g := by
    refine hI.rd ⟨rfl, rfl, rfl⟩ ⟨by have := hI.2.1.2.1; show c.2.2.2.1 + 1 ≤ _; omega, by have := hI.2.1.2.2; show c.2.2.2.2 + 6 ≤ _; omega⟩ fA ⟨a2, ?_⟩ ?_ ?_ (fun z p => ?_) (fun b p => funext fun z => ?_)
    · rw [w0 18 (by decide) (by decide), zz 18 (by decide) (by decide)]; exact n0.2
    · rw [w0 19 (by decide) (by decide), z19]; exact hrt.1
    · rw [w0 20 (by decide) (by decide), z20]; exact hrt.2.1
    · by_cases y : 2 ≤ z ∧ z ≤ 9
      · have e := b9 (z - 2) (by omega) (by omega)
        rw [show z - 2 + 2 = z by omega, zb 9 _ (by decide), n9 (z - 2) (by omega) (by omega), show z - 2 + 2 = z by omega] at e
        exact e
      · rw [w0 z y (by omega), zz z (by omega) (by omega), nz z y (by omega) (by omega) (by omega) (by omega)]
    · by_cases y : (b = 1 ∨ b = 2) ∧ 0 ≤ z ∧ z < 10
      · have e := b10 z y.2.1 y.2.2
        rw [zb 10 z (by decide), zb 11 z (by decide), (n10 z y.2.1 y.2.2).1, (n10 z y.2.1 y.2.2).2] at e
        rcases y.1 with y1 | y1
        · rw [y1]; exact e.2
        · rw [y1]; exact e.1
      · rw [bf b z (by omega) y, zb b z (by omega), nb b z (by omega) (by omega) y]
  have hm : fX7_load 0 (ii x) (NW K (mg M g)) = some (Sum.inl (some (Value.int (ii (0)))), NW K (mg M4 g4)) := by
    rw [hl, fX7_load_86, il0, il2, nV, hrf, nC, q_I, if_neg (by decide), nV, eb, nC, q_V]
  have hx' : fX6_load 0 (ii x) (CW c A J) = some (.inr "java/lang/IllegalArgumentException", CW (cU c) A' J) := by
    rw [fX6_load, il0, if_neg (by rw [ii_lt _ _ (by omega)]; omega), lkR0 hk, rdI2 hRd, hh.1, if_pos (by rw [ii_le _ _ (by omega)]; omega), lkR0 hk, lkR9 hk, lkR4 hk, rdV hRd, e1, k_C, q_I, if_pos rfl, t_E]
  refine ⟨2, 0, pl, sp, tv, cap, cU c, A', J, M4, g4, wI_er hI.1 ⟨Nat.le_succ _, Nat.le_add_right _ 6, Nat.le_refl _⟩ hx' (fun τ => (hF2 _ _ _ _ _ _ (by decide)).trans (hF1 _ _ 2 rfl _ _ _)), hm, ⟨?_, by decide, by decide⟩, fun z => by omega, hI2.cg (fun z a b => ?_)⟩
  · rw [bf 0 0 (by decide) (by decide), up_s]
  · rw [b8 z a b, zb 8 z (by decide), n8 z a b]
end LDB
