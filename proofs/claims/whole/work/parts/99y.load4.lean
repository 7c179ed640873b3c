/-! LOAD: a text without an error; all of load -/
section LDT
variable {C0 N0 n : Nat} {K : Nat × Nat} {c : CC} {A A' : AI} {J : JI} {M N1 N2 : AI} {g g2 : Int → Int} {pl sp tv cap : Nat}
theorem g_load_2 (hI : Inv C0 N0 n pl sp tv cap c A J M g) (x : Int) (hx : 0 ≤ x ∧ x ≤ M 0 18) (e1 : fX2_readText 1 (ii x) sp 338 (CW c A J) = some (Sum.inl (some (Value.int (ii (if N2 0 26 = 0 then 1 else 0)))), CW c A' J)) (e2 : fX7_holds 0 (NW K (mg (up (up M 0 0 0) 0 18 0) g)) = some (Sum.inl none, NW K (mg N1 g))) (e3 : fX7_reads 0 (ii x) (NW K (mg N1 g)) = some (Sum.inl none, NW K (mg N2 g2))) (r : RTo A' N2 x) (fA : ∀ (b : Nat) (z : Int), b ≠ 1 → b ≠ 1 + 2 → (b < sp ∨ sp + 4 ≤ b) → ¬ inS 338 b → A' b z = A b z) (a2 : A' 1 2 = 0) (hL : LdS A' J N2 g2 sp)
    (n0 : N2 0 0 = 0 ∧ N2 0 18 = 0) (nz : ∀ z, ¬ (2 ≤ z ∧ z ≤ 9) → ¬ (21 ≤ z ∧ z ≤ 27) → z ≠ 32 → z ≠ 0 → z ≠ 18 → N2 0 z = M 0 z) (nb : ∀ (b : Nat) (z : Int), 0 < b → ¬ (8 ≤ b ∧ b ≤ 11) → ¬ ((b = 1 ∨ b = 2) ∧ 0 ≤ z ∧ z < 10) → N2 b z = M b z) (q : N2 0 26 = 0) : Good C0 N0 n K (fL_load 0 (ii x) 455 (CW c A J)) (fX7_load 0 (ii x) (NW K (mg M g))) := by
  have hk := hI.1
  have hRd : isReader c 1 := hk.2.1.1
  have hh := hI.2.2.2.2.1.1
  have hap := hk.2.2.2.1.1
  have htv := hk.2.2.2.2.1.2.2.2
  have hk2 := hk.sw
  have hPl2 : isPlan (swp c pl sp) sp := hk2.2.2.2.1.2.1
  have hrt : (A' 1 3 = N2 0 26 ∧ A' 1 4 = N2 0 27 ∧ 0 ≤ N2 0 26 ∧ N2 0 26 ≤ 5) ∧ N2 0 27 = -1 := ⟨⟨r.2.2.1.1, r.2.2.1.2.1, r.2.2.1.2.2.1⟩, r.2.2.1.2.2.2 q⟩
  have hl := m_load x hx hh.2 e2 e3 hrt.1.2.2
  rw [if_pos q, if_pos q] at hl
  rw [if_pos q] at e1
  obtain ⟨A5, J5, ct, s5, ⟨v10, v21, v374, v375⟩, f5, fJ5⟩ := c_take (c := c) (A := A') (J := J) hk hL.2.2.1 hL.2.2.2.1.1.1
  obtain ⟨N3, hN3⟩ : ∃ N : AI, N = up (up N2 0 19 (N2 0 26)) 0 20 (-1) := ⟨_, rfl⟩
  rw [← hN3] at hl
  have z0 : N3 0 0 = 0 := by rw [hN3, up_n _ _ _ _ _ _ (by decide), up_n _ _ _ _ _ _ (by decide)]; exact n0.1
  obtain ⟨M5, hM5⟩ : ∃ N : AI, N = up (up (up (up N3 0 1 1) 0 15 0) 6 0 0) 6 1 0 := ⟨_, rfl⟩
  have w0 : ∀ z, z ≠ 1 → z ≠ 15 → z ≠ 19 → z ≠ 20 → M5 0 z = N2 0 z := fun z p q r s => by
    rw [hM5, hN3]
    simp (disch := first | assumption | omega) only [up_n]
  have wb : ∀ b : Nat, 0 < b → b ≠ 6 → M5 b = N2 b := fun b p q => funext fun z => by
    rw [hM5, hN3]
    simp (disch := first | assumption | omega) only [up_n]
  have w1 : M5 0 1 = 1 := by rw [hM5]; simp (disch := first | assumption | omega) only [up_s, up_n]
  have w15 : M5 0 15 = 0 := by rw [hM5]; simp (disch := first | assumption | omega) only [up_s, up_n]
  have w19 : M5 0 19 = N2 0 26 := by rw [hM5, hN3]; simp (disch := first | assumption | omega) only [up_s, up_n]
  have w20 : M5 0 20 = -1 := by rw [hM5, hN3]; simp (disch := first | assumption | omega) only [up_s, up_n]
  have w60 : M5 6 0 = 0 := by rw [hM5]; simp (disch := first | assumption | omega) only [up_s, up_n]
  have w61 : M5 6 1 = 0 := by rw [hM5]; simp (disch := first | assumption | omega) only [up_s, up_n]
  have x9 : up (up (up (up N3 0 1 1) 0 15 0) 6 0 0) 6 1 0 0 9 = N2 0 9 := by rw [← hM5]; exact w0 9 (by decide) (by decide) (by decide) (by decide)
  have hm : fX7_load 0 (ii x) (NW K (mg M g)) = some (Sum.inl (some (Value.int (ii (N2 0 9)))), NW K (mg M5 g2)) := by
    rw [hl, fX7_load_86, il0, il1, il2, nV, e_ref0 z0 2, nC, q_I, if_pos rfl, nSZ1 _ _ _ (by omega), mg_upk _ _ _ _ _ (by decide), nS15, mg_upk _ _ _ _ _ (by decide), nR6, nU6 _ _ _ _ (by omega), mg_upk _ _ _ _ _ (by decide), nR6, nU6 _ _ _ _ (by omega), mg_upk _ _ _ _ _ (by decide), nI9, mg_0, x9, hM5]
  have n303 : ∀ b : Nat, (b < 303 ∨ 338 ≤ b) → ¬ inS 303 b := fun b hb x => by unfold inS at x; omega
  have n338 : ∀ b : Nat, (b < 338 ∨ 373 ≤ b) → ¬ inS 338 b := fun b hb x => by unfold inS at x; omega
  have x7 : A5 sp 7 = N2 0 9 := by
    rw [f5 sp 7 (n303 sp (by omega)) (by omega) (by omega) (by omega)]
    exact hL.2.1.1.2.2.2.2.2.2.2
  have hx' : fX6_load 0 (ii x) (CW c A J) = some (Sum.inl (some (Value.int (ii (N2 0 9)))), CW (swp c pl sp) A5 J5) := by
    rw [fX6_load, il0, if_neg (by rw [ii_lt _ _ (by omega)]; omega), lkR0 hk, rdI2 hRd, hh.1, if_pos (by rw [ii_le _ _ (by omega)]; omega), lkR0 hk, lkR9 hk, lkR4 hk, rdV hRd, e1, k_C, q_I, if_neg (by decide), lkV hk, ct, k_Cl (c := c) (c' := swp c pl sp) ⟨Nat.le_refl _, Nat.le_refl _, Nat.le_refl _⟩, q_V, lkR8 hk2, plI7 hPl2, x7]
  have e0 : ∀ z, 2 ≤ z → z ≤ 9 → M5 0 z = N2 0 z := fun z a b => w0 z (by omega) (by omega) (by omega) (by omega)
  have hI2 : Inv C0 N0 (n + 1) sp pl tv cap (swp c pl sp) A5 J5 M5 g2 := by
    obtain ⟨-, hsz, -, h37, -, ⟨t1, t2, t3⟩, -, -, ⟨-, p2, -⟩, -⟩ := hI
    have fT : ∀ (b : Nat) (z : Int), (b = 375 ∨ b = 376 ∨ 457 ≤ b) → A5 b z = A b z := fun b z y => by
      rw [f5 b z (n303 b (by omega)) (by omega) (by omega) (by omega), fA b z (by omega) (by omega) (by omega) (n338 b (by omega))]
    have e40 : M5 0 40 = M 0 40 := by rw [w0 40 (by decide) (by decide) (by decide) (by decide)]; exact nz 40 (by decide) (by decide) (by decide) (by decide) (by decide)
    refine ⟨hk2, ⟨hsz.1, by have := hsz.2.1; show c.2.2.2.1 ≤ _; omega, by have := hsz.2.2; show c.2.2.2.2 ≤ _; omega⟩, ⟨by rw [v10, w1], by omega, by omega⟩, ?_, ⟨⟨?_, ?_, ?_⟩, fun k a b => ?_, ?_, ?_⟩, ⟨?_, ?_, fun k a b => ?_⟩, fun _ => ⟨hL.1.at e0 (wb 1 (by decide) (by decide)) (wb 2 (by decide) (by decide)), (PR_frm hL.2.1 (fun b z hb => f5 b z (n303 b (by omega)) (by omega) (by omega) (by omega))).at e0 (wb 1 (by decide) (by decide)) (wb 2 (by decide) (by decide)), ?_, (hL.2.2.2.1.at e0 (wb 2 (by decide) (by decide))).mono (by unfold Bn; omega)⟩, fun y => by omega, ⟨⟨by rw [v21, w15], by omega, by omega⟩, ?_, fun i a b => by omega⟩, ⟨fun j a b => ?_, fun y => by omega, fun y => by omega⟩⟩
    · rw [w0 37 (by decide) (by decide) (by decide) (by decide), nz 37 (by decide) (by decide) (by decide) (by decide) (by decide)]; exact h37
    · rw [f5 1 2 (n303 1 (by omega)) (by omega) (by omega) (by omega), a2, w0 18 (by decide) (by decide) (by decide) (by decide)]; exact n0.2.symm
    · rw [w0 18 (by decide) (by decide) (by decide) (by decide), n0.2]; decide
    · rw [w0 18 (by decide) (by decide) (by decide) (by decide), n0.2]; decide
    · rw [w0 18 (by decide) (by decide) (by decide) (by decide), n0.2] at b; omega
    · rw [f5 1 3 (n303 1 (by omega)) (by omega) (by omega) (by omega), w19]; exact hrt.1.1
    · rw [f5 1 4 (n303 1 (by omega)) (by omega) (by omega) (by omega), w20, hrt.1.2.1]; exact hrt.2
    · rw [fT 375 3 (by omega), fT 375 1 (by omega), e40]; exact t1
    · rw [e40]; exact t2
    · rw [fT tv k (by omega), e40, wb 16 (by decide) (by decide), nb 16 k (by decide) (by decide) (by omega)]; exact t3 k a b
    · rw [wb 2 (by decide) (by decide), hL.2.2.2.2.2]; exact s5
    · rw [f5 21 1 (n303 21 (by omega)) (by omega) (by omega) (by omega), fA 21 1 (by omega) (by omega) (by omega) (n338 21 (by omega))]; exact p2
    · by_cases y : j = 0
      · rw [y, v374, w60]; decide
      · rw [show j = 1 by omega, v375, w61]; decide
  refine ⟨0, N2 0 9, sp, pl, tv, cap, swp c pl sp, A5, upJ J5 455 0 (ii (N2 0 9)).toInt64, M5, g2, wI_ok hI.1 hk2 ⟨Nat.le_refl _, Nat.le_refl _, Nat.le_refl _⟩ hx', hm, ⟨?_, by decide, by decide⟩, fun _ => ax_up2_s _ _ _ _, ?_⟩
  · rw [w0 0 (by decide) (by decide) (by decide) (by decide)]; exact n0.1
  · exact hI2.scr (Nat.le_refl _) ⟨rfl, rfl, rfl⟩ hI2.2.1.2 (frm_upJ (frm.refl _ _ _) _ _ _ (Or.inr (Or.inl rfl))) ⟨fun _ _ _ => rfl, fun _ _ _ _ => rfl⟩
theorem g_load (hI : Inv C0 N0 n pl sp tv cap c A J M g) (x : Int) (hxb : -2147483648 ≤ x ∧ x < 2147483648) : Good C0 N0 n K (fL_load 0 (ii x) 455 (CW c A J)) (fX7_load 0 (ii x) (NW K (mg M g))) := by
  by_cases hx : 0 ≤ x ∧ x ≤ M 0 18
  · obtain ⟨A', N1, N2, g2, e1, e2, e3, r, fA, a2, hL, n0, nz, nb, n8, n10, n9⟩ := ld_reads K hI x hx
    by_cases q : N2 0 26 = 0
    · exact g_load_2 hI x hx e1 e2 e3 r fA a2 (hL q) n0 nz nb q
    · exact g_load_1 hI x hx e1 e2 e3 r fA a2 n0 nz nb n8 n10 n9 q
  · exact g_load_0 hI x hxb hx
end LDT
