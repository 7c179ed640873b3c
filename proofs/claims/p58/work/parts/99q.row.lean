/-! THE READER: a line that tells a row -/
theorem FL.refl (sp : Nat) (A : AI) : FL sp A A := fun _ _ _ _ _ _ => rfl
theorem FP.refl (M : AI) : FP M M := ⟨fun _ _ _ _ => rfl, fun _ _ _ _ => rfl⟩
theorem bit_set (s v : Int) (h : (0 ≤ s ∧ s < 256) ∧ 0 ≤ v ∧ v < 8) : ∃ s' : Int, ii s ||| (ii 1 <<< (ii v &&& ii 31)) = ii s' ∧ (0 ≤ s' ∧ s' < 256) ∧ ∀ j : Int, 0 ≤ j → j < 8 → s' / 2 ^ j.toNat % 2 = if j = v then 1 else s / 2 ^ j.toNat % 2 := by
  have key : ∀ v : Fin 8, ∀ s : Fin 256, (0 ≤ (ii ((s : Nat) : Int) ||| (ii 1 <<< (ii ((v : Nat) : Int) &&& ii 31))).toInt ∧ (ii ((s : Nat) : Int) ||| (ii 1 <<< (ii ((v : Nat) : Int) &&& ii 31))).toInt < 256) ∧ ∀ j : Fin 8, (ii ((s : Nat) : Int) ||| (ii 1 <<< (ii ((v : Nat) : Int) &&& ii 31))).toInt / 2 ^ (j : Nat) % 2 = if (j : Nat) = (v : Nat) then 1 else ((s : Nat) : Int) / 2 ^ (j : Nat) % 2 := by decide +kernel
  have h3 := key ⟨v.toNat, by omega⟩ ⟨s.toNat, by omega⟩
  dsimp only at h3
  rw [show ((s.toNat : Nat) : Int) = s by omega, show ((v.toNat : Nat) : Int) = v by omega] at h3
  refine ⟨_, (Int32.ofInt_toInt _).symm, h3.1, fun j a b => ?_⟩
  have h4 := h3.2 ⟨j.toNat, by omega⟩
  dsimp only at h4
  rw [h4]
  by_cases q : j = v
  · rw [if_pos q, if_pos (by omega)]
  · rw [if_neg q, if_neg (by omega)]
section RWQ
variable {K : Nat × Nat} {c : CC} {A A' : AI} {J : JI} {M M' : AI} {g g' : Int → Int} {n : Int} {sp : Nat}
theorem gap_l (hL : LdS A J M g sp) (hS : isState c 338) (hPl : isPlan c sp) (r : Int) (hr : 0 ≤ r ∧ r < 8) : fX3_gapIn (rc 338 r) sp (CW c A J) = some (Sum.inl (some (Value.int (ii (gapM M g r)))), CW c A J) :=
  c_gapIn (hS.row r hr) hPl (hL.2.2.1.2 r hr.1 hr.2) (hL.2.2.2.1.1.1 r hr.1 hr.2) hL.2.1.1.1 hL.2.1.1.2.2.1
theorem LdS.adds (h : LdS A J M g sp) (hsp : sp = 377 ∨ sp = 381) (hS : isState c 338) (r its : Int) (hr : 0 ≤ r ∧ r < M 0 3) (hi : (1 ≤ its ∧ its ≤ 200) ∧ its ≤ gapM M g r) (hb : cel g r 0 < 6) : ∃ A', fX3_addBlock (rc 338 r) (ii its) (CW c A J) = some (Sum.inl none, CW c A' J) ∧ LdS A' J M (gAdds g r its) sp ∧ frm (inS 338) A A' J J := by
  obtain ⟨hM, hP, hR, hG, hp, h5⟩ := h
  have h38 := hM.1.2.1
  have hg := hG.1.1 r hr.1 (by omega)
  have hg1 := hg.1
  obtain ⟨A', e, s, f⟩ := s_adds (c := c) hS hR hG.1.1 r its ⟨hr.1, by omega⟩ hb
  refine ⟨A', e, ⟨hM, PR_S hP (by omega) f, s, hG.adds hM hr its hi hb, fun r2 a b => ?_, ?_⟩, f⟩
  · rw [cel_gAdds g r its r2 1 ⟨⟨⟨hr.1, a⟩, by omega⟩, hg1⟩, if_neg (by omega), if_neg (by omega)]
    exact hp r2 a b
  · rw [lo_gAdds g r its 5 ⟨⟨hr.1, by omega⟩, hg1.1⟩]
    exact h5
/-- a number that is fine -/
theorem p_lookO (K : Nat × Nat) (J : JI) (hRd : isReader c 1) (h : RT A M n) (lo hi : Int) (hl : (0 ≤ lo ∧ lo ≤ 1000) ∧ -1000 ≤ hi ∧ hi ≤ 1000) (h0 : M 0 26 = 0) (q1 : M 0 24 = 2) (q2 : lo ≤ M 0 25 ∧ M 0 25 ≤ hi) :
    ∃ A' M', fX2_takeNumber 1 (ii lo) (ii hi) (CW c A J) = some (Sum.inl (some (Value.int (ii (M 0 25)))), CW c A' J) ∧ (∀ g, fX7_token 0 (NW K (mg M g)) = some (Sum.inl none, NW K (mg M' g))) ∧ RT A' M' n ∧ FAr A A' ∧ FMr M M' ∧ M' 0 26 = 0 ∧ M 0 23 < M' 0 23 := by
  have hR := h
  obtain ⟨⟨⟨h5, h21⟩, hn⟩, hb, ⟨e3, e4, e26⟩, ⟨a7, a6, a8⟩, ⟨b22, b23, b24, b25⟩, hr⟩ := h
  obtain ⟨⟨r6, r7⟩, r8⟩ := hr h0
  obtain ⟨⟨r8a, r8c⟩, r8b⟩ := r8 (by omega)
  obtain ⟨r9, r10, r11⟩ := r8b q1
  have hv := c_num (c := c) (J := J) hRd hb h5 hn (A 1 7) (A 1 8) rfl (by omega) rfl (by omega) (fun j a d => r11 j (by omega) (by omega))
  rw [show nvN (M 7) (A 1 7) (A 1 8 - A 1 7).toNat = M 0 25 by rw [r9, r7, r8a]] at hv
  obtain ⟨A', M', z1, z2, z3, z4, z5, z6, z7⟩ := p_adv (c := c) K J hRd hR h0 r8a
  exact ⟨A', M', c_tnO hRd lo hi _ (by omega) (by omega) (by omega) hv (b25 q1) q2 z1, z2, z3, z4, z5, z6, by omega⟩
theorem p_rloop (K : Nat × Nat) (J : JI) (n : Int) (hRd : isReader c 1) (hS : isState c 338) (hPl : isPlan c sp) (hsp : sp = 377 ∨ sp = 381) (r : Int) (hr8 : 0 ≤ r ∧ r < 8) : ∀ (k m1 m2 : Nat) (x : Int) (A M : AI) (g : Int → Int), k + 1 < m1 → k + 1 < m2 → 0 ≤ x → x + k = 7 → RT A M n → (M 0 26 = 0 → (LdS A J M g sp ∧ TD A M g) ∧ A (1 + 2) r = 1 ∧ x = cel g r 0 ∧ r < M 0 3) →
    LdP K c A J M n sp (fX2_readRow_67 m1 1 sp (rc 338 r) (ii x) (CW c A J)) (fX7_rowLine_61 m2 0 (ii r) (NW K (mg M g))) := by
  intro k
  have hR := hS.row r hr8
  induction k with
  | zero =>
    intro m1 m2 x A M g h1 h2 hx hk h hc
    obtain ⟨u1, rfl⟩ : ∃ m, m1 = m + 1 := ⟨m1 - 1, by omega⟩
    obtain ⟨u2, rfl⟩ : ∃ m, m2 = m + 1 := ⟨m2 - 1, by omega⟩
    have hb := h.2.2.1
    have q : M 0 26 ≠ 0 := fun q => by
      obtain ⟨⟨hL, -⟩, -, e, -⟩ := hc q
      have := (hL.2.2.2.1.1.1 r hr8.1 hr8.2).1
      omega
    exact ⟨A, M, g, c_rlE hRd u1 x (by omega) (by omega) (by omega), m_rlE u2 r q hb.2.2.1, h, FL.refl sp A, FP.refl M, fun y => absurd y q⟩
  | succ k ih =>
    intro m1 m2 x A M g h1 h2 hx hk h hc
    obtain ⟨u1, rfl⟩ : ∃ m, m1 = m + 1 + 1 := ⟨m1 - 2, by omega⟩
    obtain ⟨u2, rfl⟩ : ∃ m, m2 = m + 1 + 1 := ⟨m2 - 2, by omega⟩
    have hb := h.2.2.1
    by_cases q : M 0 26 = 0
    · obtain ⟨⟨hL, hT⟩, ht1, hxe, hr3⟩ := hc q
      obtain ⟨⟨r6, r7⟩, r8⟩ := h.2.2.2.2.2 q
      have hgr := hL.2.2.2.1.1.1 r hr8.1 hr8.2
      have hg1 := hgr.1
      have b24 := h.2.2.2.2.1.2.2.1
      have b6 := h.2.2.2.1.2.1
      have e3 : A 1 3 = 0 := by omega
      by_cases q2 : M 0 24 = 2
      · have q6 : A 1 6 = 2 := by omega
        rcases p_look (c := c) K J g hRd h 1 200 (by omega) with ⟨A2, M2, a2, b2, r2, f2, k2, o2⟩ | ⟨-, v, hv, b2, r7', ev, -, A2, M2, a2, b3, r2, f2, k2, o2, p2⟩
        · have hL2 := hL.fr hsp f2 k2
          have hb2 := r2.2.2.1
          have hgp := gapM_b hL2.1 hgr
          have hgp0 := hL2.2.2.2.1.2.2.2.2 r hr8.1 (by rw [k2.1 3 (by omega)]; exact hr3)
          have e1 : A2 (rc 338 r) 1 = x := (hL2.2.2.1.2 r hr8.1 hr8.2).1.1.trans hxe.symm
          exact ⟨A2, M2, g, c_rlB hRd hR u1 x _ (by omega) e3 q6 a2 (by omega) (by omega) e1 (gap_l hL2 hS hPl r hr8) (by omega), m_rlB u2 r 1 q q2 b2 o2 hb2.2.2.1, r2, f2.fl, k2.fp, fun y => absurd y o2⟩
        · have hL2 := hL.fr hsp f2 k2
          have hT2 := hT.fr f2 k2
          have hb2 := r2.2.2.1
          have e32 : A2 1 3 = 0 := by omega
          have hgp := gapM_b hL.1 hgr
          have hgp0 := hL.2.2.2.1.2.2.2.2 r hr8.1 hr3
          have hge : gapM M2 g r = gapM M g r := gapM_at (k2.1 2 (by omega)) (k2.1 4 (by omega)) (funext fun z => k2.2 2 z (by omega))
          have e1 : A2 (rc 338 r) 1 = x := (hL2.2.2.1.2 r hr8.1 hr8.2).1.1.trans hxe.symm
          have hgm := e_gap (K := K) (A := M) (g := g) hL.1 hr8 hgr
          have hgc := gap_l (c := c) hL2 hS hPl r hr8
          rw [hge] at hgc
          by_cases q3 : x < 6
          · by_cases q4 : v ≤ gapM M g r
            · obtain ⟨A3, a3, hL3, f3⟩ := hL2.adds (c := c) hsp hS r v ⟨hr8.1, by rw [k2.1 3 (by omega)]; exact hr3⟩ ⟨hv, by rw [hge]; exact q4⟩ (by omega)
              rw [c_rlO hRd hR (u1 + 1) x v _ (by omega) e3 q6 a2 hv e32 e1 hgc (by omega) q4 a3, m_rlO (u2 + 1) r v _ hr8 (by omega) hgr q q2 b2 hv hgm (by omega) q4 (b3 _)]
              have n338 : ∀ b : Nat, b < 338 → ¬ inS 338 b := fun b hb x => by unfold inS at x; omega
              have ec := fun (r2 w : Int) (a : 0 ≤ r2) (b : 0 ≤ w ∧ w < 512) => cel_gAdds g r v r2 w ⟨⟨⟨hr8.1, a⟩, b⟩, hg1⟩
              refine LdP.pre (fun b z p q r s => (f3.1 b z s).trans (f2 b z (by omega))) k2.fp (by omega) (ih (u1 + 1) (u2 + 1) (x + 1) A3 M2 (gAdds g r v) (by omega) (by omega) (by omega) (by omega) (r2.fr (fun b z y => f3.1 b z (n338 b (by omega))) (fun _ _ _ => rfl) rfl) (fun _ => ⟨⟨hL3, hT2.1, fun r2 a b => ?_⟩, ?_, ?_, ?_⟩))
              · rw [f3.1 (1 + 2) r2 (n338 _ (by omega))]
                refine ⟨(hT2.2 r2 a b).1, fun y => ?_⟩
                by_cases y2 : r2 = r
                · rw [y2, f2 _ _ (by omega), ht1] at y; omega
                · rw [ec r2 0 a (by omega), if_neg (by omega), if_neg (by omega)]
                  exact (hT2.2 r2 a b).2 y
              · rw [f3.1 (1 + 2) r (n338 _ (by omega)), f2 _ _ (by omega)]; exact ht1
              · rw [ec r 0 hr8.1 (by omega), if_pos ⟨rfl, rfl⟩]; omega
              · rw [k2.1 3 (by omega)]; exact hr3
            · obtain ⟨z3, z4, z5, z6⟩ := RT_fail2 h q r2 f2 k2 5 (A 1 7) (by omega) r7
              exact ⟨flA A2 5 (A 1 7), flM M 5, g, c_rlG hRd hR u1 x v _ (by omega) e3 q6 a2 hv e32 e1 hgc (by omega) q4, m_rlG u2 r v _ hr8 (by omega) q q2 b2 hv hgm (by omega) q4, z3, z4.fl, z5.fp, fun y => by omega⟩
          · obtain ⟨z3, z4, z5, z6⟩ := RT_fail2 h q r2 f2 k2 4 (A 1 7) (by omega) r7
            have x6 : x = 6 := by omega
            have hLf := hL.fr hsp z4 z5
            have hgpf := gapM_b hLf.1 hgr
            have hgpf0 := hLf.2.2.2.1.2.2.2.2 r hr8.1 (by rw [z5.1 3 (by omega)]; exact hr3)
            rw [x6] at e1 ⊢
            exact ⟨flA A2 4 (A 1 7), flM M 4, g, c_rl6 hRd hR u1 v _ e3 q6 a2 hv e32 e1 (gap_l hLf hS hPl r hr8) (by omega), m_rl6 u2 r v hr8 q q2 b2 (by omega), z3, z4.fl, z5.fp, fun y => by omega⟩
      · exact ⟨A, M, g, c_rlT hRd (u1 + 1) x (by omega) e3 (by omega) b6, m_rlT (u2 + 1) r q q2 b24, h, FL.refl sp A, FP.refl M, fun _ => ⟨⟨hL, hT⟩, Int.le_refl _⟩⟩
    · exact ⟨A, M, g, c_rlE hRd (u1 + 1) x (by omega) (by omega) (by omega), m_rlE (u2 + 1) r q hb.2.2.1, h, FL.refl sp A, FP.refl M, fun y => absurd y q⟩
end RWQ
