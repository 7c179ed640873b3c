/-! THE LAW'S TEXT: loaded -/
/-- the class's content, laid into what else its model tells -/
def ldM (M N : AI) : AI := fun b z =>
  if b = 0 then (if z = 1 then 1 else if 2 ≤ z ∧ z ≤ 9 then N 0 z else if z = 15 ∨ z = 18 ∨ z = 19 then 0 else if z = 20 then -1 else M 0 z) else if b = 1 ∨ b = 2 then N b z else if b = 6 then 0 else M b z
theorem ldM_z (M N : AI) (z : Int) (h : 2 ≤ z ∧ z ≤ 9) : ldM M N 0 z = N 0 z := (if_pos rfl).trans ((if_neg (by omega)).trans (if_pos h))
theorem ldM_1 (M N : AI) : ldM M N 0 1 = 1 := (if_pos rfl).trans (if_pos rfl)
theorem ldM_0 (M N : AI) (z : Int) (h : z = 15 ∨ z = 18 ∨ z = 19) : ldM M N 0 z = 0 := (if_pos rfl).trans ((if_neg (by omega)).trans ((if_neg (by omega)).trans (if_pos h)))
theorem ldM_20 (M N : AI) : ldM M N 0 20 = -1 := (if_pos rfl).trans ((if_neg (by omega)).trans ((if_neg (by omega)).trans ((if_neg (by omega)).trans (if_pos rfl))))
theorem ldM_o (M N : AI) (z : Int) (h : z = 0 ∨ z = 37 ∨ z = 40) : ldM M N 0 z = M 0 z := (if_pos rfl).trans ((if_neg (by omega)).trans ((if_neg (by omega)).trans ((if_neg (by omega)).trans (if_neg (by omega)))))
theorem ldM_b (M N : AI) (b : Nat) (h : b = 1 ∨ b = 2) : ldM M N b = N b := funext fun z => (if_neg (by omega)).trans (if_pos h)
theorem ldM_6 (M N : AI) (z : Int) : ldM M N 6 z = 0 := (if_neg (by omega)).trans ((if_neg (by omega)).trans (if_pos rfl))
theorem ldM_16 (M N : AI) (z : Int) : ldM M N 16 z = M 16 z := (if_neg (by omega)).trans ((if_neg (by omega)).trans (if_neg (by omega)))
section LDI
variable {C0 N0 n : Nat} {c : CC} {A A' : AI} {J : JI} {M N : AI} {g g2 : Int → Int} {pl sp tv cap : Nat} {b : Int → Int} {s' : CT} {v : Int}
theorem d_load (hI : Inv C0 N0 n pl sp tv cap c A J M g) (x : Int) (hx : 0 ≤ x ∧ x ≤ M 0 18) (st : Int → Int) (q : Int) (hs : hdOK st q) (ls : List Ln) (hp : Pth (hdS st q) ls s') (hll : ∀ l, l ∈ ls → l.2.2.length < 100) (hln : ls.length ≤ 100) (hby : ∀ k, 0 ≤ k → k < x → M 7 k = b k) (hT : Toks b x 0 (hdT st q ++ lnTs ls)) : ∃ (A5 : AI) (J5 : JI), fX6_load 0 (ii x) (CW c A J) = some (Sum.inl (some (Value.int (ii (s'.1 0 9)))), CW (swp c pl sp) A5 J5) ∧ Inv C0 N0 (n + 1) sp pl tv cap (swp c pl sp) A5 J5 (ldM M s'.1) s'.2.1 ∧ (A5 1 3 = 0 ∧ A5 1 4 = -1) ∧ (∀ (b : Nat) (z : Int), 455 ≤ b → A5 b z = A b z) ∧ ∀ b j : Nat, 455 ≤ b → J5 b j = J b j := by
  have hk := hI.1
  have hRd : isReader c 1 := hk.2.1.1
  have hh := hI.2.2.2.2.1
  have hap := hk.2.2.2.1.1
  have htv := hk.2.2.2.2.1.2.2.2
  have hk2 := hk.sw
  have hPl2 : isPlan (swp c pl sp) sp := hk2.2.2.2.1.2.1
  obtain ⟨A', e1, ⟨a2, a3, a4⟩, hL, fA⟩ := rd_text (c := c) (J := J) (b := b) hRd hk.2.1.2.2.2.2.1 hk.2.2.2.1.2.2 (by omega) x (M 0 18) hh.1.1 (by omega) (fun k u v => by
    obtain ⟨y1, y2⟩ := hh.2.1 k u (by omega)
    rw [y1, ← hby k u v]
    exact ⟨rfl, y2⟩) st q hs ls hp hll hln hT
  obtain ⟨A5, J5, ct, s5, ⟨v10, v21, v374, v375⟩, f5, fJ5⟩ := c_take (c := c) (A := A') (J := J) hk hL.2.2.1 hL.2.2.2.1.1.1
  have n303 : ∀ b : Nat, (b < 303 ∨ 338 ≤ b) → ¬ inS 303 b := fun b hb x => by unfold inS at x; omega
  have n338 : ∀ b : Nat, (b < 338 ∨ 373 ≤ b) → ¬ inS 338 b := fun b hb x => by unfold inS at x; omega
  have x7 : A5 sp 7 = s'.1 0 9 := by
    rw [f5 sp 7 (n303 sp (by omega)) (by omega) (by omega) (by omega)]
    exact hL.2.1.1.2.2.2.2.2.2.2
  have fT : ∀ (b : Nat) (z : Int), (b = 375 ∨ b = 376 ∨ 455 ≤ b) → A5 b z = A b z := fun b z y => by
    rw [f5 b z (n303 b (by omega)) (by omega) (by omega) (by omega), fA b z (by omega) (by omega) (by omega) (n338 b (by omega))]
  refine ⟨A5, J5, ?_, ?_, ⟨?_, ?_⟩, fun b z y => fT b z (by omega), fun b j y => fJ5 b j (n303 b (by omega))⟩
  · rw [fX6_load, il0, if_neg (by rw [ii_lt _ _ (by omega)]; omega), lkR0 hk, rdI2 hRd, hh.1.1, if_pos (by rw [ii_le _ _ (by omega)]; omega), lkR0 hk, lkR9 hk, lkR4 hk, rdV hRd, e1, k_C, q_I, if_neg (by decide), lkV hk, ct, k_Cl (c := c) (c' := swp c pl sp) ⟨Nat.le_refl _, Nat.le_refl _, Nat.le_refl _⟩, q_V, lkR8 hk2, plI7 hPl2, x7]
  · obtain ⟨-, hsz, -, h37, -, ⟨t1, t2, t3⟩, -, -, ⟨-, p2, -⟩, -⟩ := hI
    have e0 : ∀ z, 2 ≤ z → z ≤ 9 → ldM M s'.1 0 z = s'.1 0 z := fun z u v => ldM_z _ _ _ ⟨u, v⟩
    have w1 := ldM_b M s'.1 1 (by omega)
    have w2 := ldM_b M s'.1 2 (by omega)
    refine ⟨hk2, ⟨hsz.1, by have := hsz.2.1; show c.2.2.2.1 ≤ _; omega, by have := hsz.2.2; show c.2.2.2.2 ≤ _; omega⟩, ⟨by rw [v10, ldM_1], by rw [ldM_1]; omega, by rw [ldM_1]; omega⟩, ?_, ⟨⟨?_, ?_, ?_⟩, fun k a b => ?_, ?_, ?_⟩, ⟨?_, ?_, fun k a b => ?_⟩, fun _ => ⟨hL.1.at e0 w1 w2, (PR_frm hL.2.1 (fun b z hb => f5 b z (n303 b (by omega)) (by omega) (by omega) (by omega))).at e0 w1 w2, ?_, (hL.2.2.2.1.at e0 w2).mono (by unfold Bn; omega)⟩, fun y => by rw [ldM_1] at y; omega, ⟨⟨by rw [v21, ldM_0 _ _ 15 (by omega)], by rw [ldM_0 _ _ 15 (by omega)]; omega, by rw [ldM_0 _ _ 15 (by omega)]; omega⟩, ?_, fun i a b => by rw [ldM_0 _ _ 15 (by omega)] at b; omega⟩, ⟨fun j a b => ?_, fun y => by rw [ldM_6] at y; omega, fun y => by rw [ldM_6] at y; omega⟩⟩
    · rw [ldM_o _ _ 37 (by omega)]; exact h37
    · rw [f5 1 2 (n303 1 (by omega)) (by omega) (by omega) (by omega), a2, ldM_0 _ _ 18 (by omega)]
    · rw [ldM_0 _ _ 18 (by omega)]; omega
    · rw [ldM_0 _ _ 18 (by omega)]; omega
    · rw [ldM_0 _ _ 18 (by omega)] at b; omega
    · rw [f5 1 3 (n303 1 (by omega)) (by omega) (by omega) (by omega), a3, ldM_0 _ _ 19 (by omega)]
    · rw [f5 1 4 (n303 1 (by omega)) (by omega) (by omega) (by omega), a4, ldM_20]
    · rw [fT 375 3 (by omega), fT 375 1 (by omega), ldM_o _ _ 40 (by omega)]; exact t1
    · rw [ldM_o _ _ 40 (by omega)]; exact t2
    · rw [fT tv k (by omega), ldM_o _ _ 40 (by omega), ldM_16]; exact t3 k a b
    · rw [w2, hL.2.2.2.2.2]; exact s5
    · rw [f5 21 1 (n303 21 (by omega)) (by omega) (by omega) (by omega), fA 21 1 (by omega) (by omega) (by omega) (n338 21 (by omega))]; exact p2
    · rw [ldM_6]
      by_cases y : j = 0
      · rw [y, v374]; decide
      · rw [show j = 1 by omega, v375]; decide
  · rw [f5 1 3 (n303 1 (by omega)) (by omega) (by omega) (by omega)]; exact a3
  · rw [f5 1 4 (n303 1 (by omega)) (by omega) (by omega) (by omega)]; exact a4
theorem d_parseError (hk : isLock c pl sp tv cap) (h : A 1 3 = v) : fX6_parseError 0 (CW c A J) = some (Sum.inl (some (Value.int (ii (v)))), CW c A J) := by
  rw [fX6_parseError, lkR0 hk, rdI3 hk.2.1.1, h]
theorem d_errorPosition (hk : isLock c pl sp tv cap) (h : A 1 4 = v) : fX6_errorPosition 0 (CW c A J) = some (Sum.inl (some (Value.int (ii (v)))), CW c A J) := by
  rw [fX6_errorPosition, lkR0 hk, rdI4 hk.2.1.1, h]
end LDI
