/-! THE READER: from the start to the first line -/
abbrev LdS (A : AI) (J : JI) (M : AI) (g : Int → Int) (sp : Nat) : Prop := SA M ∧ PR A sp M ∧ SR A J 338 (M 2) g 0 ∧ GC M g 0 ∧ (∀ r, 0 ≤ r → r < 8 → cel g r 1 = 0) ∧ g 5 = 0
abbrev TD (A M : AI) (g : Int → Int) : Prop := (0 ≤ M 0 32 ∧ M 0 32 < 256) ∧ ∀ r : Int, 0 ≤ r → r < 8 → A (1 + 2) r = M 0 32 / 2 ^ r.toNat % 2 ∧ (A (1 + 2) r = 0 → cel g r 0 = 0)
abbrev FL (sp : Nat) (A A' : AI) : Prop := ∀ (b : Nat) (z : Int), ¬ (b = 1 ∧ 3 ≤ z) → b ≠ 1 + 2 → (b < sp ∨ sp + 4 ≤ b) → ¬ inS 338 b → A' b z = A b z
abbrev FP (M M' : AI) : Prop := (∀ z, ¬ (2 ≤ z ∧ z ≤ 9) → ¬ (21 ≤ z ∧ z ≤ 27) → z ≠ 32 → M' 0 z = M 0 z) ∧ ∀ (b : Nat) (z : Int), 0 < b → ¬ ((b = 1 ∨ b = 2) ∧ 0 ≤ z ∧ z < 10) → M' b z = M b z
theorem FL.trans {sp : Nat} {A A1 A2 : AI} (h : FL sp A A1) (k : FL sp A1 A2) : FL sp A A2 := fun b z p q r s => (k b z p q r s).trans (h b z p q r s)
theorem FP.trans {M M1 M2 : AI} (h : FP M M1) (k : FP M1 M2) : FP M M2 := ⟨fun z p q r => (k.1 z p q r).trans (h.1 z p q r), fun b z p q => (k.2 b z p q).trans (h.2 b z p q)⟩
theorem GC_z {M : AI} {g : Int → Int} (hM : SA M) (h9 : M 0 9 = 0) (hc : rwZ g) (h6 : ∀ z, 6 ≤ z → z < 16 → g z = 0) (h0 : 0 ≤ g 0 ∧ g 0 ≤ 20) : GC M g 0 := by
  have hcn : ∀ r k, 0 ≤ r → r < 8 → cnt g r k = 0 := fun r k a b => by
    unfold cnt
    rw [(hc r a b).2.1]
    rfl
  refine ⟨⟨GR_z hc, fun r a b _ => (hc r a b).2.2.2.1, fun r a b => hc r (by have := hM.1.2.1; omega) b, fun r a b k p q => by have := (hc r a b).2.1; omega, fun r a b => by have := (hc r a b).2.2.2.2; omega⟩, fun k a b => ?_, ⟨h0.1, ?_⟩, fun r a b q => absurd (hc r a b).2.2.1 q, fun r a b => ?_⟩
  · rw [h6 _ (by omega) (by omega), sm_z _ 8 (fun r p q => hcn r k p q)]
    have := lim_b M k
    omega
  · rw [sm_z _ 8 (fun r p q => by unfold qi; rw [if_pos (hc r p q).2.2.1])]
    omega
  · have hM' := hM.1
    have z := hc r a (by omega)
    unfold gapM uQ suB suP
    rw [if_pos z.2.2.1, z.1, z.2.1]
    show 0 ≤ M 0 2 - (0 + 0 + 0)
    omega
section RDS
variable {K : Nat × Nat} {c : CC} {A A' : AI} {J : JI} {M M' : AI} {g g' : Int → Int} {n : Int} {sp : Nat}
theorem SA_h (h : HK A M sp 7) (h9 : M 0 9 = 0) (hb : ∀ k, 0 ≤ k → k < 10 → (0 ≤ M 1 k ∧ M 1 k ≤ 1) ∧ 0 ≤ M 2 k ∧ M 2 k ≤ 99) : SA M := by
  have a0 := (h 0 (by omega) (by omega)).2
  have a1 := (h 1 (by omega) (by omega)).2
  have a2 := (h 2 (by omega) (by omega)).2
  have a3 := (h 3 (by omega) (by omega)).2
  have a4 := (h 4 (by omega) (by omega)).2
  have a5 := (h 5 (by omega) (by omega)).2
  have a6 := (h 6 (by omega) (by omega)).2
  exact ⟨⟨a0, a1, a2, a3, a4, a5, a6, by omega⟩, fun k a b => (hb k a b).1, fun k a b => (hb k a b).2, fun k a b => by omega⟩
theorem PR_h (h : HK A M sp 7) (h9 : M 0 9 = 0) (h7 : A sp 7 = 0) : PR A sp M := by
  refine ⟨⟨(h 0 (by omega) (by omega)).1, (h 1 (by omega) (by omega)).1, (h 2 (by omega) (by omega)).1, (h 3 (by omega) (by omega)).1, (h 4 (by omega) (by omega)).1, (h 5 (by omega) (by omega)).1, (h 6 (by omega) (by omega)).1, by omega⟩, fun k a b => by omega, ?_⟩
  rw [h9]
  exact ⟨fun p a b => by omega, fun p q a b d => by omega, fun f => rfl⟩
theorem SR_q (h : SR A J 338 (M 2) g 0) (hg : GR g) (v : Int) (hA : ∀ (b : Nat) (z : Int), inS 338 b → ¬ (b = 338 ∧ z = 2) → A' b z = A b z) (h2 : A' 338 2 = v) : SR A' J 338 (M 2) (gu g 0 v) 0 := by
  have s0 : inS 338 338 := by unfold inS; omega
  have s2 : inS 338 (338 + 2) := by unfold inS; omega
  refine ⟨⟨?_, fun k a b => ?_⟩, fun r a b => RR.frame (h.2 r a b) (hg r a b) (fun x z hx => ?_) (fun _ _ _ => rfl) (fun w p q => cel_gu g 0 v r w (by omega))⟩
  · rw [hA 338 3 s0 (by omega), hA 338 4 s0 (by omega), hA 338 5 s0 (by omega), hA 338 6 s0 (by omega), hA 338 7 s0 (by omega), h2, gu_s, gu_n _ _ _ _ (by omega), gu_n _ _ _ _ (by omega), gu_n _ _ _ _ (by omega), gu_n _ _ _ _ (by omega)]
    exact ⟨rfl, h.1.1.2⟩
  · rw [hA _ _ s2 (by omega), gu_n _ _ _ _ (by omega)]
    exact h.1.2 k a b
  · have hx2 := (rc_in ⟨a, b⟩ hx).1
    exact hA x z hx2.1 (fun q => hx2.2.1 q.1)
def hdC (c : CC) (J : JI) (sp : Nat) (k lo hi : Int) (A A' : AI) : Prop := ∃ (B : AI) (v : Int), fX2_takeNumber 1 (ii lo) (ii hi) (CW c A J) = some (Sum.inl (some (Value.int (ii (v)))), CW c B J) ∧ up B sp k v = A'
theorem p_st2 (K : Nat × Nat) (J : JI) (g : Int → Int) (hRd : isReader c 1) (hs : sp ≠ 1 ∧ sp ≠ 1 + 1) (h : RT A M n) (k k1 z lo hi : Int) (hk : (0 ≤ k ∧ k < 7) ∧ k1 = k + 1 ∧ z = k + 2) (hl : lo = hLo k ∧ hi = hHi k ∧ 0 ≤ lo ∧ lo ≤ 1000 ∧ 0 ≤ hi ∧ hi ≤ 1000) (hh : M 0 26 = 0 → HK A M sp k) : ∃ A' M' : AI, hdC c J sp k lo hi A A' ∧ (∃ (N : AI) (v : Int), fX7_takes 0 (ii lo) (ii hi) (NW K (mg M g)) = some (Sum.inl (some (Value.int (ii (v)))), NW K (mg N g)) ∧ up N 0 z v = M') ∧ RT A' M' n ∧ FH sp A A' ∧ FN M M' ∧ (M' 0 26 = 0 → M 0 26 = 0 ∧ HK A' M' sp k1) := by
  obtain ⟨A1, M1, vc, vm, e1, e2, r, f1, f2, i1⟩ := p_st (c := c) (sp := sp) K J g hRd hs h k lo hi hk.1 hl hh
  rw [hk.2.1, hk.2.2]
  exact ⟨_, _, ⟨A1, vc, e1, rfl⟩, ⟨M1, vm, e2, rfl⟩, r, f1, f2, i1⟩
abbrev hdG (K : Nat × Nat) (g : Int → Int) (z lo hi : Int) (M M' : AI) : Prop := ∃ (N : AI) (v : Int), fX7_takes 0 (ii lo) (ii hi) (NW K (mg M g)) = some (Sum.inl (some (Value.int (ii (v)))), NW K (mg N g)) ∧ up N 0 z v = M'
theorem p_hd1 (K : Nat × Nat) (J : JI) (g : Int → Int) (hRd : isReader c 1) (hs : sp ≠ 1 ∧ sp ≠ 1 + 1) (h : RT A M n) : ∃ A1 A2 A3 A4 A5 M1 M2 M3 M4 M5 : AI, fX2_takeWord 1 1000026 (CW c A J) = some (Sum.inl none, CW c A1 J) ∧ fX7_word 0 1000034 (NW K (mg M g)) = some (Sum.inl none, NW K (mg M1 g)) ∧ (hdC c J sp 0 10 500 A1 A2 ∧ hdC c J sp 1 1 8 A2 A3 ∧ hdC c J sp 2 1 50 A3 A4 ∧ hdC c J sp 3 0 20 A4 A5) ∧ (hdG K g 2 10 500 M1 M2 ∧ hdG K g 3 1 8 M2 M3 ∧ hdG K g 4 1 50 M3 M4 ∧ hdG K g 5 0 20 M4 M5) ∧ RT A5 M5 n ∧ FH sp A A5 ∧ FN M M5 ∧ (M5 0 26 = 0 → M 0 26 = 0 ∧ HK A5 M5 sp 4) := by
  have hb1 : ax_byt (1000026 - 1000000) = ax_byt (1000034 - 1000000) := by decide
  obtain ⟨A1, M1, x1, y1, r1, fa1, fm1, i1⟩ := p_word (c := c) K J g hRd h 1000026 1000034 (by omega) hb1
  obtain ⟨A2, M2, x2, y2, r2, fa2, fm2, i2⟩ := p_st2 (c := c) (sp := sp) K J g hRd hs r1 0 1 2 10 500 (by omega) (by decide) (fun _ j a b => by omega)
  obtain ⟨A3, M3, x3, y3, r3, fa3, fm3, i3⟩ := p_st2 (c := c) (sp := sp) K J g hRd hs r2 1 2 3 1 8 (by omega) (by decide) (fun q => (i2 q).2)
  obtain ⟨A4, M4, x4, y4, r4, fa4, fm4, i4⟩ := p_st2 (c := c) (sp := sp) K J g hRd hs r3 2 3 4 1 50 (by omega) (by decide) (fun q => (i3 q).2)
  obtain ⟨A5, M5, x5, y5, r5, fa5, fm5, i5⟩ := p_st2 (c := c) (sp := sp) K J g hRd hs r4 3 4 5 0 20 (by omega) (by decide) (fun q => (i4 q).2)
  exact ⟨A1, A2, A3, A4, A5, M1, M2, M3, M4, M5, x1, y1, ⟨x2, x3, x4, x5⟩, ⟨y2, y3, y4, y5⟩, r5, (((fa1.fh.trans fa2).trans fa3).trans fa4).trans fa5, (((fm1.fn.trans fm2).trans fm3).trans fm4).trans fm5, fun q => ⟨i1 (i2 (i3 (i4 (i5 q).1).1).1).1, (i5 q).2⟩⟩
theorem p_hd2 (K : Nat × Nat) (J : JI) (g : Int → Int) (hRd : isReader c 1) (hs : (sp ≠ 1 ∧ sp ≠ 1 + 1) ∧ sp ≠ 338) (h : RT A M n) (hh : M 0 26 = 0 → HK A M sp 4) : ∃ (B A' M' : AI) (v u : Int), fX2_takeNumber 1 (ii 0) (ii 20) (CW c A J) = some (Sum.inl (some (Value.int (ii (v)))), CW c B J) ∧ up B 338 2 v = A' ∧ fX7_takes 0 (ii 0) (ii 20) (NW K (mg M g)) = some (Sum.inl (some (Value.int (ii (u)))), NW K (mg M' g)) ∧ RT A' M' n ∧ (∀ (b : Nat) (z : Int), ¬ (b = 1 ∧ ((3 ≤ z ∧ z ≤ 4) ∨ 6 ≤ z ∧ z ≤ 8)) → ¬ (b = 338 ∧ z = 2) → A' b z = A b z) ∧ FN M M' ∧ (M' 0 26 = 0 → M 0 26 = 0 ∧ HK A' M' sp 4 ∧ A' 338 2 = u ∧ 0 ≤ u ∧ u ≤ 20) := by
  obtain ⟨B6, M6, c6, d6, x6, y6, r6, fa6, fm6, -, i6⟩ := p_num (c := c) K J g hRd h 0 20 (by omega)
  refine ⟨B6, up B6 338 2 c6, M6, c6, d6, x6, rfl, y6, r6.fr (fun b z q => up_n _ _ _ _ _ _ (by omega)) (fun _ _ _ => rfl) rfl, fun b z p q => ?_, fm6.fn, fun q => ?_⟩
  · rw [up_n _ _ _ _ _ _ q]
    exact fa6 b z p
  · obtain ⟨q5, q6, q7⟩ := i6 q
    refine ⟨q5, fun j a b => ?_, by rw [up_s]; exact q6, q7.1⟩
    rw [up_n _ _ _ _ _ _ (by omega)]
    exact (hh q5).fr (by omega) hs.1.1 fa6 fm6 j a b
theorem p_hd3 (K : Nat × Nat) (J : JI) (g : Int → Int) (hRd : isReader c 1) (hs : sp ≠ 1 ∧ sp ≠ 1 + 1) (h : RT A M n) (hh : M 0 26 = 0 → HK A M sp 4) : ∃ (A7 A8 A9 Aa Ab L7 M7 M8 M9 Ma Mb : AI) (t : Int), (fX2_takeSemicolon 1 (CW c A J) = some (Sum.inl none, CW c A7 J) ∧ fX7_failsIf 0 (ii t) (ii 1) (NW K (mg M g)) = some (Sum.inl none, NW K (mg L7 g)) ∧ fX7_goesOn 0 (NW K (mg L7 g)) = some (Sum.inl none, NW K (mg M7 g)) ∧ (M 0 26 = 0 → M 0 24 = 3 → t = 0) ∧ (M 0 26 = 0 → M 0 24 ≠ 3 → t = 1) ∧ (M 0 26 ≠ 0 → t = 0)) ∧ fX2_takeWord 1 1000027 (CW c A7 J) = some (Sum.inl none, CW c A8 J) ∧ fX7_word 0 1000035 (NW K (mg M7 g)) = some (Sum.inl none, NW K (mg M8 g)) ∧ (hdC c J sp 4 0 9 A8 A9 ∧ hdC c J sp 5 0 9 A9 Aa ∧ hdC c J sp 6 1 999 Aa Ab) ∧ (hdG K g 6 0 9 M8 M9 ∧ hdG K g 7 0 9 M9 Ma ∧ hdG K g 8 1 999 Ma Mb) ∧ RT Ab Mb n ∧ FH sp A Ab ∧ FN M Mb ∧ (Mb 0 26 = 0 → M 0 26 = 0 ∧ HK Ab Mb sp 7) := by
  have hb2 : ax_byt (1000027 - 1000000) = ax_byt (1000035 - 1000000) := by decide
  obtain ⟨A7, L7, M7, t, x7, y7, y7b, r7, fa7, fm7, i7, t1, t2, t3⟩ := p_semi (c := c) K J g hRd h
  obtain ⟨A8, M8, x8, y8, r8, fa8, fm8, i8⟩ := p_word (c := c) K J g hRd r7 1000027 1000035 (by omega) hb2
  obtain ⟨A9, M9, x9, y9, r9, fa9, fm9, i9⟩ := p_st2 (c := c) (sp := sp) K J g hRd hs r8 4 5 6 0 9 (by omega) (by decide) (fun q => ((hh (i7 (i8 q))).fr (by omega) hs.1 fa7 fm7).fr (by omega) hs.1 fa8 fm8)
  obtain ⟨Aa, Ma, xa, ya, ra, faa, fma, ia⟩ := p_st2 (c := c) (sp := sp) K J g hRd hs r9 5 6 7 0 9 (by omega) (by decide) (fun q => (i9 q).2)
  obtain ⟨Ab, Mb, xb, yb, rb, fab, fmb, ib⟩ := p_st2 (c := c) (sp := sp) K J g hRd hs ra 6 7 8 1 999 (by omega) (by decide) (fun q => (ia q).2)
  exact ⟨A7, A8, A9, Aa, Ab, L7, M7, M8, M9, Ma, Mb, t, ⟨x7, y7, y7b, t1, t2, t3⟩, x8, y8, ⟨x9, xa, xb⟩, ⟨y9, ya, yb⟩, rb, (((fa7.fh.trans fa8.fh).trans fa9).trans faa).trans fab, (((fm7.fn.trans fm8.fn).trans fm9).trans fma).trans fmb, fun q => ⟨i7 (i8 (i9 (ia (ib q).1).1).1), (ib q).2⟩⟩
/-- the head, from the first token on -/
theorem p_head (K : Nat × Nat) (J : JI) (G : Int → Int) (hRd : isReader c 1) (hS : isState c 338) (hPl : isPlan c sp) (hsp : sp = 377 ∨ sp = 381) (h : RT A M n) : ∃ (A' M' : AI) (u : Int), fX2_readHead 1 sp 338 (CW c A J) = some (Sum.inl none, CW c A' J) ∧
    cV (NW K (mg M G)) 0 11 (fX7_word 0 1000034 (NW K (mg M G))) (qV (fun s7 => cV s7 0 11 (fX7_takes 0 10 500 s7) (qI (fun v8 s9 => sI s9 0 11 2 v8 (fun s10 => cV s10 0 11 (fX7_takes 0 1 8 s10) (qI (fun v11 s12 => sI s12 0 11 3 v11 (fun s13 => cV s13 0 11 (fX7_takes 0 1 50 s13) (qI (fun v14 s15 => sI s15 0 11 4 v14 (fun s16 => cV s16 0 11 (fX7_takes 0 0 20 s16) (qI (fun v17 s18 => sI s18 0 11 5 v17 (fun s19 => gR s19 0 11 12 (fun q20 => cV s19 0 11 (fX7_takes 0 0 20 s19) (qI (fun v21 s22 => uI s22 q20 0 v21 (fun s23 => gI s23 0 11 26 (fun v24 => if v24 = 0 then (gI s23 0 11 24 (fun v25 => if v25 = (3 : Int32) then (fX7_reads_113 0 0 s23) else (fX7_reads_114 0 0 1 s23))) else (fX7_reads_113 0 0 s23)))))))))))))))))))) = fX7_reads_162 FU 0 (NW K (mg M' (gu G 0 u))) ∧
    RT A' M' n ∧ (∀ (b : Nat) (z : Int), ¬ (b = 1 ∧ ((3 ≤ z ∧ z ≤ 4) ∨ 6 ≤ z ∧ z ≤ 8)) → ¬ (b = sp ∧ 0 ≤ z ∧ z < 7) → ¬ (b = 338 ∧ z = 2) → A' b z = A b z) ∧ FN M M' ∧ (M' 0 26 = 0 → M 0 26 = 0 ∧ HK A' M' sp 7 ∧ A' 338 2 = u ∧ 0 ≤ u ∧ u ≤ 20) := by
  have hs : sp ≠ 1 ∧ sp ≠ 1 + 1 := by omega
  have hs3 : sp ≠ 338 := by omega
  obtain ⟨A1, A2, A3, A4, A5, M1, M2, M3, M4, M5, x1, y1, ⟨⟨B2, c2, x2, w2⟩, ⟨B3, c3, x3, w3⟩, ⟨B4, c4, x4, w4⟩, ⟨B5, c5, x5, w5⟩⟩, ⟨⟨N2, d2, y2, z2⟩, ⟨N3, d3, y3, z3⟩, ⟨N4, d4, y4, z4⟩, ⟨N5, d5, y5, z5⟩⟩, r5, fa5, fm5, i5⟩ := p_hd1 (c := c) K J G hRd hs h
  obtain ⟨B6, A6, M6, c6, d6, x6, w6, y6, r6, fa6, fm6, i6⟩ := p_hd2 (c := c) K J G hRd ⟨hs, hs3⟩ r5 (fun q => (i5 q).2)
  obtain ⟨A7, A8, A9, Aa, Ab, L7, M7, M8, M9, Ma, Mb, t, ⟨x7, y7, y7b, t1, t2, t3⟩, x8, y8, ⟨⟨B9, c9, x9, w9⟩, ⟨Ba, ca, xa, wa⟩, ⟨Bb, cb, xb, wb'⟩⟩, ⟨⟨N9, d9, y9, z9⟩, ⟨Na, da, ya, za⟩, ⟨Nb, db, yb, zb⟩⟩, rb, fab, fmb, ib⟩ := p_hd3 (c := c) K J (gu G 0 d6) hRd hs r6 (fun q => (i6 q).2.1)
  refine ⟨Ab, Mb, d6, ?_, ?_, rb, fun b z p q r => (fab b z p q).trans ((fa6 b z p r).trans (fa5 b z p q)), (fm5.trans fm6).trans fmb, fun q => ?_⟩
  · rw [fX2_readHead, rdV hRd, x1, k_C, q_V, il0, il1, il8, il9, il10, il20, il50, il500, il999, rdV hRd, x2, k_C, q_I, plS0 hPl, w2, rdV hRd, x3, k_C, q_I, plS1 hPl, w3, rdV hRd, x4, k_C, q_I, plS2 hPl, w4, rdV hRd, x5, k_C, q_I, plS3 hPl, w5, rdV hRd, x6, k_C, q_I, stS2 hS, w6, rdV hRd, x7, k_C, q_V, rdV hRd, x8, k_C, q_V, rdV hRd, x9, k_C, q_I, plS4 hPl, w9, rdV hRd, xa, k_C, q_I, plS5 hPl, wa, rdV hRd, xb, k_C, q_I, plS6 hPl, wb']
  · have hR : fX7_reads_114 0 0 (ii t) (NW K (mg M6 (gu G 0 d6))) = fX7_reads_162 FU 0 (NW K (mg Mb (gu G 0 d6))) := by
      rw [fX7_reads_114, il0, il1, il9, il999, nV, y7, nC, q_V, nV, y7b, nC, q_V, nV, y8, nC, q_V, nV, y9, nC, q_I, nS6, mg_upk _ _ _ _ _ (by omega), z9, nV, ya, nC, q_I, nS7, mg_upk _ _ _ _ _ (by omega), za, nV, yb, nC, q_I, nS8, mg_upk _ _ _ _ _ (by omega), zb]
    have e26 := r6.2.2.1.2.2.1
    have e24 := r6.2.2.2.2.1.2.2.1
    rw [nV, y1, nC, q_V, il0, il1, il3, il8, il10, il20, il50, il500, nV, y2, nC, q_I, nS2, mg_upk _ _ _ _ _ (by omega), z2, nV, y3, nC, q_I, nS3, mg_upk _ _ _ _ _ (by omega), z3, nV, y4, nC, q_I, nS4, mg_upk _ _ _ _ _ (by omega), z4, nV, y5, nC, q_I, nS5, mg_upk _ _ _ _ _ (by omega), z5, nR3, nV, y6, nC, q_I, nU3 _ _ _ _ (by omega), mg_up3, nI26, mg_0]
    by_cases q : M6 0 26 = 0
    · rw [if_pos (by rw [q]), nI24, mg_0]
      by_cases q2 : M6 0 24 = 3
      · rw [if_pos (by rw [q2]), ← hR, t1 q q2]
        rfl
      · rw [if_neg (by rw [ii_eq _ _ (by omega)]; exact q2), ← hR, t2 q q2]
    · rw [if_neg (by rw [ii_eq _ _ (by omega)]; exact q), ← hR, t3 q]
      rfl
  · obtain ⟨q1, q2⟩ := ib q
    obtain ⟨q3, -, q4⟩ := i6 q1
    refine ⟨(i5 q3).1, q2, ?_, q4.2⟩
    rw [fab 338 2 (by omega) (by omega)]
    exact q4.1
end RDS
