/-! THE READER: from the start to the first line -/
abbrev LS (A : AI) (J : JI) (M : AI) (g : Int → Int) (sp : Nat) : Prop := SA M ∧ PR A sp M ∧ SR A J 338 (M 2) g 0 ∧ GC M g 0 ∧ (∀ r, 0 ≤ r → r < 8 → cel g r 1 = 0) ∧ g 5 = 0
abbrev TD (A M : AI) (g : Int → Int) : Prop := (0 ≤ M 0 32 ∧ M 0 32 < 256) ∧ ∀ r : Int, 0 ≤ r → r < 8 → A (1 + 2) r = M 0 32 / 2 ^ r.toNat % 2 ∧ (A (1 + 2) r = 0 → cel g r 0 = 0)
abbrev FL (sp : Nat) (A A' : AI) : Prop := ∀ (b : Nat) (z : Int), ¬ (b = 1 ∧ 3 ≤ z) → b ≠ 1 + 2 → (b < sp ∨ sp + 4 ≤ b) → ¬ inS 338 b → A' b z = A b z
abbrev FP (M M' : AI) : Prop := (∀ z, ¬ (2 ≤ z ∧ z ≤ 9) → ¬ (21 ≤ z ∧ z ≤ 27) → z ≠ 32 → M' 0 z = M 0 z) ∧ ∀ (b : Nat) (z : Int), 0 < b → ¬ ((b = 1 ∨ b = 2) ∧ 0 ≤ z ∧ z < 10) → M' b z = M b z
theorem FL.trans {sp : Nat} {A A1 A2 : AI} (h : FL sp A A1) (k : FL sp A1 A2) : FL sp A A2 := fun b z p q r s => (k b z p q r s).trans (h b z p q r s)
theorem FP.trans {M M1 M2 : AI} (h : FP M M1) (k : FP M1 M2) : FP M M2 := ⟨fun z p q r => (k.1 z p q r).trans (h.1 z p q r), fun b z p q => (k.2 b z p q).trans (h.2 b z p q)⟩
theorem GC_z {M : AI} {g : Int → Int} (hM : SA M) (h9 : M 0 9 = 0) (hc : rwZ g) (h6 : ∀ z, 6 ≤ z → z < 16 → g z = 0) (h0 : 0 ≤ g 0 ∧ g 0 ≤ 20) : GC M g 0 := by
  have hcn : ∀ r k, 0 ≤ r → r < 8 → cnt g r k = 0 := fun r k a b => by
    unfold cnt
    rw [(hc r a b).2.1]
    rfl
  refine ⟨⟨GR_z hc, fun r a b _ => (hc r a b).2.2.2.1, fun r a b => hc r (by have := hM.1.2.1; omega) b, fun r a b k p q => by have := (hc r a b).2.1; omega, fun r a b => by have := (hc r a b).2.2.2.2; omega⟩, fun k a b => ?_, ⟨h0.1, ?_⟩, fun r a b q => absurd (hc r a b).2.2.1 q, fun r a b => ?_⟩
  · rw [h6 _ (by omega) (by omega), sm_z _ 8 (fun r p q => hcn r k p q)]
    have := lim_b M k
    omega
  · rw [sm_z _ 8 (fun r p q => by unfold qi; rw [if_pos (hc r p q).2.2.1])]
    omega
  · have hM' := hM.1
    have z := hc r a (by omega)
    unfold gapM uQ suB suP
    rw [if_pos z.2.2.1, z.1, z.2.1]
    show 0 ≤ M 0 2 - (0 + 0 + 0)
    omega
section RDS
variable {K : Nat × Nat} {c : CC} {A A' : AI} {J : JI} {M M' : AI} {g g' : Int → Int} {n : Int} {sp : Nat}
theorem SA_h (h : HK A M sp 7) (h9 : M 0 9 = 0) (hb : ∀ k, 0 ≤ k → k < 10 → (0 ≤ M 1 k ∧ M 1 k ≤ 1) ∧ 0 ≤ M 2 k ∧ M 2 k ≤ 99) : SA M := by
  have a0 := (h 0 (by omega) (by omega)).2
  have a1 := (h 1 (by omega) (by omega)).2
  have a2 := (h 2 (by omega) (by omega)).2
  have a3 := (h 3 (by omega) (by omega)).2
  have a4 := (h 4 (by omega) (by omega)).2
  have a5 := (h 5 (by omega) (by omega)).2
  have a6 := (h 6 (by omega) (by omega)).2
  exact ⟨⟨a0, a1, a2, a3, a4, a5, a6, by omega⟩, fun k a b => (hb k a b).1, fun k a b => (hb k a b).2, fun k a b => by omega⟩
theorem PR_h (h : HK A M sp 7) (h9 : M 0 9 = 0) (h7 : A sp 7 = 0) : PR A sp M := by
  refine ⟨⟨(h 0 (by omega) (by omega)).1, (h 1 (by omega) (by omega)).1, (h 2 (by omega) (by omega)).1, (h 3 (by omega) (by omega)).1, (h 4 (by omega) (by omega)).1, (h 5 (by omega) (by omega)).1, (h 6 (by omega) (by omega)).1, by omega⟩, fun k a b => by omega, ?_⟩
  rw [h9]
  exact ⟨fun p a b => by omega, fun p q a b d => by omega, fun f => rfl⟩
theorem SR_q (h : SR A J 338 (M 2) g 0) (hg : GR g) (v : Int) (hA : ∀ (b : Nat) (z : Int), inS 338 b → ¬ (b = 338 ∧ z = 2) → A' b z = A b z) (h2 : A' 338 2 = v) : SR A' J 338 (M 2) (gu g 0 v) 0 := by
  have s0 : inS 338 338 := by unfold inS; omega
  have s2 : inS 338 (338 + 2) := by unfold inS; omega
  refine ⟨⟨?_, fun k a b => ?_⟩, fun r a b => RR.frame (h.2 r a b) (hg r a b) (fun x z hx => ?_) (fun _ _ _ => rfl) (fun w p q => cel_gu g 0 v r w (by omega))⟩
  · rw [hA 338 3 s0 (by omega), hA 338 4 s0 (by omega), hA 338 5 s0 (by omega), hA 338 6 s0 (by omega), hA 338 7 s0 (by omega), h2, gu_s, gu_n _ _ _ _ (by omega), gu_n _ _ _ _ (by omega), gu_n _ _ _ _ (by omega), gu_n _ _ _ _ (by omega)]
    exact ⟨rfl, h.1.1.2⟩
  · rw [hA _ _ s2 (by omega), gu_n _ _ _ _ (by omega)]
    exact h.1.2 k a b
  · have hx2 := (rc_in ⟨a, b⟩ hx).1
    exact hA x z hx2.1 (fun q => hx2.2.1 q.1)
/-- the head, from the first token on -/
theorem p_head (K : Nat × Nat) (J : JI) (G : Int → Int) (hRd : isReader c 1) (hS : isState c 338) (hPl : isPlan c sp) (hsp : sp = 377 ∨ sp = 381) (h : RT A M n) : ∃ (A' M' : AI) (u : Int), fX2_readHead 1 sp 338 (CW c A J) = some (Sum.inl none, CW c A' J) ∧
    cV (NW K (mg M G)) 0 11 (fX7_word 0 1000034 (NW K (mg M G))) (qV (fun s7 => cV s7 0 11 (fX7_takes 0 10 500 s7) (qI (fun v8 s9 => sI s9 0 11 2 v8 (fun s10 => cV s10 0 11 (fX7_takes 0 1 8 s10) (qI (fun v11 s12 => sI s12 0 11 3 v11 (fun s13 => cV s13 0 11 (fX7_takes 0 1 50 s13) (qI (fun v14 s15 => sI s15 0 11 4 v14 (fun s16 => cV s16 0 11 (fX7_takes 0 0 20 s16) (qI (fun v17 s18 => sI s18 0 11 5 v17 (fun s19 => gR s19 0 11 12 (fun q20 => cV s19 0 11 (fX7_takes 0 0 20 s19) (qI (fun v21 s22 => uI s22 q20 0 v21 (fun s23 => gI s23 0 11 26 (fun v24 => if v24 = 0 then (gI s23 0 11 24 (fun v25 => if v25 = (3 : Int32) then (fX7_reads_113 0 0 s23) else (fX7_reads_114 0 0 1 s23))) else (fX7_reads_113 0 0 s23)))))))))))))))))))) = fX7_reads_162 FU 0 (NW K (mg M' (gu G 0 u))) ∧
    RT A' M' n ∧ (∀ (b : Nat) (z : Int), ¬ (b = 1 ∧ ((3 ≤ z ∧ z ≤ 4) ∨ 6 ≤ z ∧ z ≤ 8)) → ¬ (b = sp ∧ 0 ≤ z ∧ z < 7) → ¬ (b = 338 ∧ z = 2) → A' b z = A b z) ∧ FN M M' ∧ (M' 0 26 = 0 → M 0 26 = 0 ∧ HK A' M' sp 7 ∧ A' 338 2 = u ∧ 0 ≤ u ∧ u ≤ 20) := by
  have hs : sp ≠ 1 ∧ sp ≠ 1 + 1 := by omega
  have hb1 : ax_byt (1000026 - 1000000) = ax_byt (1000034 - 1000000) := by decide
  have hb2 : ax_byt (1000027 - 1000000) = ax_byt (1000035 - 1000000) := by decide
  obtain ⟨A1, M1, x1, y1, r1, fa1, fm1, i1⟩ := p_word (c := c) K J G hRd h 1000026 1000034 (by omega) hb1
  obtain ⟨B2, N2, c2, d2, x2, y2, r2, fa2, fm2, i2⟩ := p_st (c := c) (sp := sp) K J G hRd hs r1 0 10 500 (by omega) (by decide) (fun _ j a b => by omega)
  obtain ⟨B3, N3, c3, d3, x3, y3, r3, fa3, fm3, i3⟩ := p_st (c := c) (sp := sp) K J G hRd hs r2 1 1 8 (by omega) (by decide) (fun q => (i2 q).2)
  obtain ⟨B4, N4, c4, d4, x4, y4, r4, fa4, fm4, i4⟩ := p_st (c := c) (sp := sp) K J G hRd hs r3 2 1 50 (by omega) (by decide) (fun q => (i3 q).2)
  obtain ⟨B5, N5, c5, d5, x5, y5, r5, fa5, fm5, i5⟩ := p_st (c := c) (sp := sp) K J G hRd hs r4 3 0 20 (by omega) (by decide) (fun q => (i4 q).2)
  obtain ⟨B6, M6, c6, d6, x6, y6, r6', fa6, fm6, -, i6⟩ := p_num (c := c) K J G hRd r5 0 20 (by omega)
  have r6 : RT (up B6 338 2 c6) M6 n := r6'.fr (fun b z q => up_n _ _ _ _ _ _ (by omega)) (fun _ _ _ => rfl) rfl
  have k6 : M6 0 26 = 0 → HK (up B6 338 2 c6) M6 sp 4 := fun q j a b => by
    rw [up_n _ _ _ _ _ _ (by omega)]
    exact (i5 (i6 q).1).2.fr (by omega) hs.1 fa6 fm6 j a b
  obtain ⟨A7, L7, M7, t, x7, y7, y7b, r7, fa7, fm7, i7, t1, t2, t3⟩ := p_semi (c := c) K J (gu G 0 d6) hRd r6
  obtain ⟨A8, M8, x8, y8, r8, fa8, fm8, i8⟩ := p_word (c := c) K J (gu G 0 d6) hRd r7 1000027 1000035 (by omega) hb2
  obtain ⟨B9, N9, c9, d9, x9, y9, r9, fa9, fm9, i9⟩ := p_st (c := c) (sp := sp) K J (gu G 0 d6) hRd hs r8 4 0 9 (by omega) (by decide) (fun q => ((k6 (i7 (i8 q))).fr (by omega) hs.1 fa7 fm7).fr (by omega) hs.1 fa8 fm8)
  obtain ⟨Ba, Na, ca, da, xa, ya, ra, faa, fma, ia⟩ := p_st (c := c) (sp := sp) K J (gu G 0 d6) hRd hs r9 5 0 9 (by omega) (by decide) (fun q => (i9 q).2)
  obtain ⟨Bb, Nb, cb, db, xb, yb, rb, fab, fmb, ib⟩ := p_st (c := c) (sp := sp) K J (gu G 0 d6) hRd hs ra 6 1 999 (by omega) (by decide) (fun q => (ia q).2)
  have FA1 : FH sp A B6 := ((((fa1.fh.trans fa2).trans fa3).trans fa4).trans fa5).trans fa6.fh
  have FA2 : FH sp (up B6 338 2 c6) (up Bb sp 6 cb) := (((fa7.fh.trans fa8.fh).trans fa9).trans faa).trans fab
  refine ⟨up Bb sp 6 cb, up Nb 0 (6 + 2) db, d6, ?_, ?_, rb, fun b z p q r => ?_, (((((((((fm1.fn.trans fm2).trans fm3).trans fm4).trans fm5).trans fm6.fn).trans fm7.fn).trans fm8.fn).trans fm9).trans fma).trans fmb, fun q => ?_⟩
  · rw [fX2_readHead, rdV hRd, x1, k_C, q_V, il0, il1, il8, il9, il10, il20, il50, il500, il999, rdV hRd, x2, k_C, q_I, plS0 hPl, rdV hRd, x3, k_C, q_I, plS1 hPl, rdV hRd, x4, k_C, q_I, plS2 hPl, rdV hRd, x5, k_C, q_I, plS3 hPl, rdV hRd, x6, k_C, q_I, stS2 hS, rdV hRd, x7, k_C, q_V, rdV hRd, x8, k_C, q_V, rdV hRd, x9, k_C, q_I, plS4 hPl, rdV hRd, xa, k_C, q_I, plS5 hPl, rdV hRd, xb, k_C, q_I, plS6 hPl]
  · have hR : fX7_reads_114 0 0 (ii t) (NW K (mg M6 (gu G 0 d6))) = fX7_reads_162 FU 0 (NW K (mg (up Nb 0 (6 + 2) db) (gu G 0 d6))) := by
      rw [fX7_reads_114, il0, il1, il9, il999, nV, y7, nC, q_V, nV, y7b, nC, q_V, nV, y8, nC, q_V, nV, y9, nC, q_I, nS6, mg_upk _ _ _ _ _ (by omega)]
      rw [nV, ya, nC, q_I, nS7, mg_upk _ _ _ _ _ (by omega), nV, yb, nC, q_I, nS8, mg_upk _ _ _ _ _ (by omega)]
      rfl
    have e26 := r6.2.2.1.2.2.1
    have e24 := r6.2.2.2.2.1.2.2.1
    rw [nV, y1, nC, q_V, il0, il1, il3, il8, il10, il20, il50, il500, nV, y2, nC, q_I, nS2, mg_upk _ _ _ _ _ (by omega), nV, y3, nC, q_I, nS3, mg_upk _ _ _ _ _ (by omega), nV, y4, nC, q_I, nS4, mg_upk _ _ _ _ _ (by omega), nV, y5, nC, q_I, nS5, mg_upk _ _ _ _ _ (by omega), nR3, nV, y6, nC, q_I, nU3 _ _ _ _ (by omega), mg_up3, nI26, mg_0]
    by_cases q : M6 0 26 = 0
    · rw [if_pos (by rw [q]), nI24, mg_0]
      by_cases q2 : M6 0 24 = 3
      · rw [if_pos (by rw [q2]), ← hR, t1 q q2]
        rfl
      · rw [if_neg (by rw [ii_eq _ _ (by omega)]; exact q2), ← hR, t2 q q2]
    · rw [if_neg (by rw [ii_eq _ _ (by omega)]; exact q), ← hR, t3 q]
      rfl
  · refine (FA2 b z p q).trans ((up_n _ _ _ _ _ _ (by omega)).trans (FA1 b z p q))
  · obtain ⟨q1, q2⟩ := ib q
    obtain ⟨q3, -⟩ := ia q1
    obtain ⟨q4, -⟩ := i9 q3
    obtain ⟨q5, q6, q7⟩ := i6 (i7 (i8 q4))
    obtain ⟨q8, -⟩ := i5 q5
    obtain ⟨q9, -⟩ := i4 q8
    obtain ⟨qa, -⟩ := i3 q9
    obtain ⟨qb, -⟩ := i2 qa
    refine ⟨i1 qb, q2, ?_, q7.1⟩
    rw [FA2 338 2 (by omega) (by omega), up_s]
    exact q6
end RDS
