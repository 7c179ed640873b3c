/-! THE READER: a line, the lines -/
section LNS
variable {K : Nat × Nat} {c : CC} {A A' : AI} {J : JI} {M M' : AI} {g g' : Int → Int} {n : Int} {sp : Nat}
theorem FU_1 : ∃ w : Nat, FU = w + 1 ∧ 1000 < w := ⟨FU - 1, by have := FU_e; omega, by have := FU_e; omega⟩
theorem LdS.fr2 (h : LdS A J M g sp) (hsp : sp = 377 ∨ sp = 381) (hA : ∀ (b : Nat) (z : Int), b ≠ 1 → b ≠ 1 + 2 → A' b z = A b z) (e0 : ∀ z, 2 ≤ z → z ≤ 9 → M' 0 z = M 0 z) (e1 : M' 1 = M 1) (e2 : M' 2 = M 2) : LdS A' J M' g sp := by
  obtain ⟨hS, hP, hR, hG, hp, h5⟩ := h
  refine ⟨hS.at e0 e1 e2, (PR_frm hP (fun b z hb => hA b z (by omega) (by omega))).at e0 e1 e2, ?_, hG.at e0 e2, hp, h5⟩
  rw [e2]
  exact SR_frame hR hG.1.1 (fun b z hb => hA b z (by unfold inS at hb; omega) (by unfold inS at hb; omega)) (fun _ _ _ => rfl)
theorem p_rowB {M1 A1 A2 M2 : AI} (hRd : isReader c 1) (hPl : isPlan c sp) (hsp : sp = 377 ∨ sp = 381) (x1 : A1 sp 1 = M1 0 3) (h3 : 1 ≤ M1 0 3 ∧ M1 0 3 ≤ 8) (g1 : fX7_goesOn 0 (NW K (mg M g)) = some (Sum.inl none, NW K (mg M1 g)))
    (a2 : fX2_takeNumber 1 (ii 0) (ii (M1 0 3 - 1)) (CW c A1 J) = some (Sum.inl (some (Value.int (ii (-1)))), CW c A2 J)) (b2 : fX7_looks 0 (ii 0) (ii (M1 0 3 - 1)) (NW K (mg M1 g)) = some (Sum.inl (some (Value.int (ii (0)))), NW K (mg M2 g))) (r2 : RT A2 M2 n) (f2 : FAr A1 A2) (k2 : FMr M1 M2) (o2 : M2 0 26 ≠ 0) : LdP K c A1 J M1 n sp (fX2_readRow 1 sp 338 (CW c A1 J)) (fX7_rowLine 0 (NW K (mg M g))) := by
  have hb2 := r2.2.2.1
  obtain ⟨s', hs'⟩ : ∃ s' : Int, ii (M2 0 32) ||| (ii 1 <<< (ii 0 &&& ii 31)) = ii s' := ⟨_, (Int32.ofInt_toInt _).symm⟩
  obtain ⟨w, hw, -⟩ := FU_1
  have e26 : up M2 0 32 s' 0 26 = M2 0 26 := up_n _ _ _ _ _ _ (by omega)
  refine ⟨A2, up M2 0 32 s', g, ?_, ?_, r2.fr (fun _ _ _ => rfl) (fun z a b => up_n _ _ _ _ _ _ (by omega)) (funext fun z => up_n _ _ _ _ _ _ (by omega)), f2.fl, k2.fp.trans ⟨fun z p q r => up_n _ _ _ _ _ _ (by omega), fun b z p q => up_n _ _ _ _ _ _ (by omega)⟩, fun y => by rw [e26] at y; exact absurd y o2⟩
  · rw [fX2_readRow, rdI7 hRd, plI1 hPl, x1, il0, il1, ii_sub, rdV hRd, a2, k_C, q_I, if_pos (by rw [ii_lt _ _ (by omega)]; omega)]
  · rw [fX7_rowLine, nV, g1, nC, q_V, nI3, mg_0, il0, il1, ii_sub, nV, b2, nC, q_I, nI26, mg_0, if_neg (by rw [ii_eq _ _ (by omega)]; exact o2), fX7_rowLine_40, fX7_rowLine_41, il0, il1, il3, il31, nV, m_ifN, nC, q_V, nI32, mg_0, hs', nS32, mg_upk _ _ _ _ _ (by omega), nV, m_goesN (by rw [e26]; exact o2) (by rw [e26]; exact hb2.2.2.1), nC, q_V, hw]
    exact m_rlE w 0 (by rw [e26]; exact o2) (by rw [e26]; exact hb2.2.2.1)
/-- the row was told before -/
theorem p_rowT {M1 A1 A2 M2 : AI} (hRd : isReader c 1) (hS : isState c 338) (hPl : isPlan c sp) (hsp : sp = 377 ∨ sp = 381) (v : Int) (hv : 0 ≤ v ∧ v < M1 0 3) (x1 : A1 sp 1 = M1 0 3) (h3 : 1 ≤ M1 0 3 ∧ M1 0 3 ≤ 8) (g1 : fX7_goesOn 0 (NW K (mg M g)) = some (Sum.inl none, NW K (mg M1 g))) (r1 : RT A1 M1 n) (o1 : M1 0 26 = 0) (hT1 : TD A1 M1 g) (ht : ¬ A1 (1 + 2) v = 0)
    (a2 : fX2_takeNumber 1 (ii 0) (ii (M1 0 3 - 1)) (CW c A1 J) = some (Sum.inl (some (Value.int (ii (v)))), CW c A2 J)) (b2 : fX7_looks 0 (ii 0) (ii (M1 0 3 - 1)) (NW K (mg M1 g)) = some (Sum.inl (some (Value.int (ii (v)))), NW K (mg M1 g))) (r2 : RT A2 M2 n) (f2 : FAr A1 A2) (k2 : FMr M1 M2) (o2 : M2 0 26 = 0) : LdP K c A1 J M1 n sp (fX2_readRow 1 sp 338 (CW c A1 J)) (fX7_rowLine 0 (NW K (mg M g))) := by
  have hb2 := r2.2.2.1
  have hv3 := (r1.2.2.2.2.2 o1).1.2
  obtain ⟨z3, z4, z5, z6⟩ := RT_fail2 r1 o1 r2 f2 k2 3 (A1 1 7) (by omega) hv3
  have tb := (hT1.2 v (by omega) (by omega)).1
  have t1 : A1 (1 + 2) v = 1 := by omega
  have t2 : A2 (1 + 2) v = 1 := by rw [f2 _ _ (by omega)]; exact t1
  have hbit := bit_sh (M1 0 32) v ⟨hT1.1, by omega⟩
  rw [← tb, t1] at hbit
  obtain ⟨s', hs'⟩ : ∃ s' : Int, ii (flM M1 3 0 32) ||| (ii 1 <<< (ii v &&& ii 31)) = ii s' := ⟨_, (Int32.ofInt_toInt _).symm⟩
  obtain ⟨w, hw, -⟩ := FU_1
  have hf := c_fail (J := J) hRd 3 (A1 1 7) (A := A2) (by omega)
  have e26 : up (flM M1 3) 0 32 s' 0 26 = 3 := by rw [up_n _ _ _ _ _ _ (by omega)]; exact z6
  have e3 : up (flA A2 3 (A1 1 7)) (1 + 2) v 1 1 3 = 3 := by rw [up_n _ _ _ _ _ _ (by omega)]; exact flA_3 _ _
  refine ⟨up (flA A2 3 (A1 1 7)) (1 + 2) v 1, up (flM M1 3) 0 32 s', g, ?_, ?_, z3.fr (fun b z y => up_n _ _ _ _ _ _ (by omega)) (fun z a b => up_n _ _ _ _ _ _ (by omega)) (funext fun z => up_n _ _ _ _ _ _ (by omega)), z4.fl.trans (fun b z p q r s => up_n _ _ _ _ _ _ (by omega)), z5.fp.trans ⟨fun z p q r => up_n _ _ _ _ _ _ (by omega), fun b z p q => up_n _ _ _ _ _ _ (by omega)⟩, fun y => by omega⟩
  · rw [fX2_readRow, rdI7 hRd, plI1 hPl, x1, il0, il1, il3, il8, ii_sub, rdV hRd, a2, k_C, q_I, if_neg (by rw [ii_lt _ _ (by omega)]; omega), if_pos (by rw [ii_lt _ _ (by omega)]; omega), rdR1 hRd, rdA2 hRd _ _ (by omega), t2, if_neg (by decide), rdV hRd, hf, k_C, q_V, fX2_readRow_47, il0, il1, rdR1 hRd, rdU2 hRd _ _ _ (by omega), stR0 hS, stRow hS _ _ (by omega), hw]
    exact c_rlE hRd w 0 (by omega) (by omega) (by omega)
  · rw [fX7_rowLine, nV, g1, nC, q_V, nI3, mg_0, il0, il1, il31, ii_sub, nV, b2, nC, q_I, nI26, mg_0, if_pos (by rw [o1]), nI32, mg_0, hbit, if_pos rfl, fX7_rowLine_41, il1, il3, il31, nV, m_if 3 (m_fails 3 o1), nC, q_V, nI32, mg_0, hs', nS32, mg_upk _ _ _ _ _ (by omega), nV, m_goesN (by omega) (by omega), nC, q_V, hw]
    exact m_rlE w v (by omega) (by omega)
/-- the row is told -/
theorem p_rowO {M1 A1 : AI} (hRd : isReader c 1) (hS : isState c 338) (hPl : isPlan c sp) (hsp : sp = 377 ∨ sp = 381) (v : Int) (hv : 0 ≤ v ∧ v < M1 0 3) (ev : v = M1 0 25) (h24 : M1 0 24 = 2) (x1 : A1 sp 1 = M1 0 3) (h3 : 1 ≤ M1 0 3 ∧ M1 0 3 ≤ 8) (g1 : fX7_goesOn 0 (NW K (mg M g)) = some (Sum.inl none, NW K (mg M1 g))) (r1 : RT A1 M1 n) (o1 : M1 0 26 = 0) (hL1 : LdS A1 J M1 g sp) (hT1 : TD A1 M1 g) (ht : A1 (1 + 2) v = 0)
    (b2 : fX7_looks 0 (ii 0) (ii (M1 0 3 - 1)) (NW K (mg M1 g)) = some (Sum.inl (some (Value.int (ii (v)))), NW K (mg M1 g))) : LdP K c A1 J M1 n sp (fX2_readRow 1 sp 338 (CW c A1 J)) (fX7_rowLine 0 (NW K (mg M g))) := by
  have tb := (hT1.2 v (by omega) (by omega))
  have hbit := bit_sh (M1 0 32) v ⟨hT1.1, by omega⟩
  rw [← tb.1, ht] at hbit
  obtain ⟨s', es, bs, js⟩ := bit_set (M1 0 32) v ⟨hT1.1, by omega⟩
  have u0 : ∀ z, z ≠ 32 → up M1 0 32 s' 0 z = M1 0 z := fun z q => up_n _ _ _ _ _ _ (by omega)
  have r1' : RT A1 (up M1 0 32 s') n := r1.fr (fun _ _ _ => rfl) (fun z a b => u0 z (by omega)) (funext fun z => up_n _ _ _ _ _ _ (by omega))
  obtain ⟨A2, M2, a2, b3, r2, f2, k2, o2, p2⟩ := p_lookO (c := c) K J hRd r1' 0 (M1 0 3 - 1) (by omega) (by rw [u0 26 (by omega)]; exact o1) (by rw [u0 24 (by omega)]; exact h24) (by rw [u0 25 (by omega)]; omega)
  rw [u0 25 (by omega), ← ev] at a2
  rw [u0 23 (by omega)] at p2
  have t2 : A2 (1 + 2) v = 0 := by rw [f2 _ _ (by omega)]; exact ht
  have hgo := m_goes (K := K) (g := g) (M := up M1 0 32 s') (by rw [u0 26 (by omega)]; exact o1) (b3 g)
  have hc : fX2_readRow 1 sp 338 (CW c A1 J) = fX2_readRow_67 FU 1 sp (rc 338 v) (ii 0) (CW c (up A2 (1 + 2) v 1) J) := by
    rw [fX2_readRow, rdI7 hRd, plI1 hPl, x1, il0, il1, il3, il8, ii_sub, rdV hRd, a2, k_C, q_I, if_neg (by rw [ii_lt _ _ (by omega)]; omega), if_pos (by rw [ii_lt _ _ (by omega)]; omega), rdR1 hRd, rdA2 hRd _ _ (by omega), t2, if_pos rfl, fX2_readRow_47, il0, il1, rdR1 hRd, rdU2 hRd _ _ _ (by omega), stR0 hS, stRow hS _ _ (by omega)]
  have hm : fX7_rowLine 0 (NW K (mg M g)) = fX7_rowLine_61 FU 0 (ii v) (NW K (mg M2 g)) := by
    rw [fX7_rowLine, nV, g1, nC, q_V, nI3, mg_0, il0, il1, il31, ii_sub, nV, b2, nC, q_I, nI26, mg_0, if_pos (by rw [o1]), nI32, mg_0, hbit, if_neg (by decide), fX7_rowLine_40, fX7_rowLine_41, il0, il1, il3, il31, nV, m_ifN, nC, q_V, nI32, mg_0, es, nS32, mg_upk _ _ _ _ _ (by omega), nV, hgo, nC, q_V]
  rw [hc, hm]
  have e32 : M2 0 32 = s' := by rw [k2.1 32 (by omega), up_s]
  have e0 : ∀ z, 2 ≤ z → z ≤ 9 → M2 0 z = M1 0 z := fun z a b => by rw [k2.1 z (by omega), u0 z (by omega)]
  have m1e : M2 1 = M1 1 := funext fun z => by rw [k2.2 1 z (by omega), up_n _ _ _ _ _ _ (by omega)]
  have m2e : M2 2 = M1 2 := funext fun z => by rw [k2.2 2 z (by omega), up_n _ _ _ _ _ _ (by omega)]
  have fA : ∀ (b : Nat) (z : Int), b ≠ 1 → b ≠ 1 + 2 → up A2 (1 + 2) v 1 b z = A1 b z := fun b z p q => by rw [up_n _ _ _ _ _ _ (by omega), f2 b z (by omega)]
  refine LdP.pre (f2.fl.trans (fun b z p q r s => up_n _ _ _ _ _ _ (by omega))) (FP.trans (M1 := up M1 0 32 s') ⟨fun z p q r => u0 z r, fun b z p q => up_n _ _ _ _ _ _ (by omega)⟩ k2.fp) (by omega) (p_rloop K J n hRd hS hPl hsp v ⟨hv.1, by omega⟩ 7 FU FU 0 _ _ _ (by have := FU_e; omega) (by have := FU_e; omega) (by omega) (by omega) (r2.fr (fun b z y => up_n _ _ _ _ _ _ (by omega)) (fun _ _ _ => rfl) rfl) (fun _ => ⟨⟨hL1.fr2 hsp fA e0 m1e m2e, by rw [e32]; exact bs, fun j a b => ?_⟩, up_s _ _ _ _, (tb.2 ht).symm, by rw [e0 3 (by omega) (by omega)]; exact hv.2⟩))
  show up A2 (1 + 2) v 1 (1 + 2) j = _ ∧ (up A2 (1 + 2) v 1 (1 + 2) j = 0 → cel g j 0 = 0)
  rw [e32, js j a b]
  by_cases q : j = v
  · rw [q, up_s, if_pos rfl]
    exact ⟨rfl, fun y => by omega⟩
  · rw [if_neg q, up_n _ _ _ _ _ _ (by omega), f2 _ _ (by omega)]
    exact hT1.2 j a b
theorem p_row (K : Nat × Nat) (J : JI) {M1 A1 : AI} (hRd : isReader c 1) (hS : isState c 338) (hPl : isPlan c sp) (hsp : sp = 377 ∨ sp = 381) (g1 : fX7_goesOn 0 (NW K (mg M g)) = some (Sum.inl none, NW K (mg M1 g))) (r1 : RT A1 M1 n) (o1 : M1 0 26 = 0) (hL1 : LdS A1 J M1 g sp) (hT1 : TD A1 M1 g) : LdP K c A1 J M1 n sp (fX2_readRow 1 sp 338 (CW c A1 J)) (fX7_rowLine 0 (NW K (mg M g))) := by
  have x1 : A1 sp 1 = M1 0 3 := hL1.2.1.1.2.1
  have h3 := hL1.1.1.2.1
  rcases p_look (c := c) K J g hRd r1 0 (M1 0 3 - 1) (by omega) with ⟨A2, M2, a2, b2, r2, f2, k2, o2⟩ | ⟨-, v, hv, b2, r7', ev, h24, A2, M2, a2, b3, r2, f2, k2, o2, p2⟩
  · exact p_rowB hRd hPl hsp x1 h3 g1 a2 b2 r2 f2 k2 o2
  · by_cases q : A1 (1 + 2) v = 0
    · exact p_rowO hRd hS hPl hsp v (by omega) ev h24 x1 h3 g1 r1 o1 hL1 hT1 q b2
    · exact p_rowT hRd hS hPl hsp v (by omega) x1 h3 g1 r1 o1 hT1 q a2 b2 r2 f2 k2 o2
end LNS
