/-! THE LAW'S WORLD: the text's head, the kinds -/
section WI3
variable {c c' c2 : CC} {A A' A2 : AI} {J J' J2 : JI} {M : AI} {g o : Int → Int} {w d tvb capb NC NS tvb' capb' : Nat} {p p' : TP} {q qf : Int} {sc : Nat × (Nat → Int32)} {T : List Tok}
theorem w_lens2 : wlen 1000036 = 6 ∧ wlen 1000037 = 7 ∧ wlen 1000038 = 7 ∧ wlen 1000039 = 6 ∧ wlen 1000040 = 5 := by decide +kernel
theorem tS_1 (x : Nat) (p : TP) : (tS x p).1 = p.1 + ((wlen x : Nat) : Int) := rfl
theorem w_314 (h : WI NC NS w d c A J tvb capb p q) (hP : PreC p T) (k v : Int) (hk : 0 ≤ k ∧ k < 4) (hv : A (w + 3) k = v) (hvb : 0 ≤ v ∧ v ≤ 999) (hp : p.1 ≤ 500) (f : Nat) : ∃ (c' : CC) (A' : AI) (J' : JI) (tvb' capb' : Nat) (p' : TP), fX19_init_314 sc (f + 1) w d (ii k) (CW c A J) = fX19_init_314 sc f w d (ii (k + 1)) (CW c' A' J') ∧ WI NC NS w d c' A' J' tvb' capb' p' q ∧ PreC p' (T ++ [(2, v)]) ∧ p'.1 ≤ p.1 + 5 ∧ ∀ (b : Nat) (z : Int), inC w b → A' b z = A b z := by
  have nd1 := nd_b v
  obtain ⟨c1, A1, J1, t1, k1, e1, h1, f1⟩ := h.num (J := J) v (by omega) (by omega)
  obtain ⟨c2, A2, J2, t2, k2, e2, h2, f2⟩ := h1.chr (J := J1) 32 (by omega) (by rw [tN_1]; omega) (x := 32) rfl
  refine ⟨c2, A2, J2, t2, k2, _, ?_, h2, (hP.num v hvb).sp, by rw [tC_1, tN_1]; omega, fun b z hb => (f2 b z hb).trans (f1 b z hb)⟩
  rw [fX19_init_314, show (4 : Int32) = ii 4 from rfl, if_neg (by rw [ii_le _ _ (by omega)]; omega), h.B, wdR1 h.1.1, wdA3 h.1.1 k _ (by omega), hv, e1, e2, ii_s, lt_q]
theorem w_head (h : WI NC NS w d c A J tvb capb (tS 1000036 tP0) q) (hs : sc.1 < 2147483648) (hq : q < 1000) (hr : rngS w 0 A) : ∃ (c' : CC) (A' : AI) (J' : JI) (tvb' capb' : Nat) (p' : TP) (n : Int), fX19_init_314 sc FU w d 0 (CW c A J) = fX19_init_406 sc FU w d (ii n) (CW c' A' J') ∧ (0 ≤ n ∧ n ≤ 4) ∧ WI NC NS w d c' A' J' tvb' capb' p' (q + 1) ∧ PreO p' (hdT (A (w + 3)) (A w 15)) ∧ p'.1 ≤ 60 ∧ ∀ (b : Nat) (z : Int), inC w b → A' b z = A b z := by
  obtain ⟨w36, w37, -, -, -⟩ := w_lens2
  obtain ⟨r0, r1, r2, r3, r4, r5, r6, r7⟩ := hr
  have r0 := r0 (by omega)
  have r1 := r1 (by omega)
  have r2 := r2 (by omega)
  have r3 := r3 (by omega)
  have r4 := r4 (by omega)
  have r5 := r5 (by omega)
  have r6 := r6 (by omega)
  have r7 := r7 (by omega)
  have p0 : (tS 1000036 tP0).1 = 6 := by rw [tS_1, w36]; rfl
  have hd := h.2.2.1.2
  obtain ⟨F, hF⟩ : ∃ F, FU = F + 1 + 1 + 1 + 1 + 1 := ⟨FU - 5, by have := FU_e; omega⟩
  obtain ⟨c1, A1, J1, t1, k1, p1, e1, h1, P1, b1, f1⟩ := w_314 (sc := sc) h Pre_0 0 (A (w + 3) 0) (by omega) rfl (by omega) (by omega) (F + 1 + 1 + 1 + 1)
  obtain ⟨c2, A2, J2, t2, k2, p2, e2, h2, P2, b2, f2⟩ := w_314 (sc := sc) h1 P1 (0 + 1) (A (w + 3) 1) (by omega) (f1 _ _ (by omega)) (by omega) (by omega) (F + 1 + 1 + 1)
  obtain ⟨c3, A3, J3, t3, k3, p3, e3, h3, P3, b3, f3⟩ := w_314 (sc := sc) h2 P2 (0 + 1 + 1) (A (w + 3) 2) (by omega) ((f2 _ _ (by omega)).trans (f1 _ _ (by omega))) (by omega) (by omega) (F + 1 + 1)
  obtain ⟨c4, A4, J4, t4, k4, p4, e4, h4, P4, b4, f4⟩ := w_314 (sc := sc) h3 P3 (0 + 1 + 1 + 1) (A (w + 3) 3) (by omega) ((f3 _ _ (by omega)).trans ((f2 _ _ (by omega)).trans (f1 _ _ (by omega)))) (by omega) (by omega) (F + 1)
  have g4 : ∀ (b : Nat) (z : Int), inC w b → A4 b z = A b z := fun b z hb => (f4 b z hb).trans ((f3 b z hb).trans ((f2 b z hb).trans (f1 b z hb)))
  have ndq := nd_b (A w 15)
  have nd4 := nd_b (A (w + 3) 4)
  have nd5 := nd_b (A (w + 3) 5)
  have nd6 := nd_b (A (w + 3) 6)
  obtain ⟨c5, A5, J5, t5, k5, e5, h5, f5⟩ := h4.num (J := J4) (A w 15) (by omega) (by omega)
  obtain ⟨c6, A6, J6, t6, k6, e6, h6, f6⟩ := h5.str (J := J5) 1000037 (by omega) (by rw [tN_1]; omega)
  have g6 : ∀ (b : Nat) (z : Int), inC w b → A6 b z = A b z := fun b z hb => (f6 b z hb).trans ((f5 b z hb).trans (g4 b z hb))
  obtain ⟨c7, A7, J7, t7, k7, e7, h7, f7⟩ := h6.num (J := J6) (A (w + 3) 4) (by omega) (by rw [tS_1, tN_1]; omega)
  obtain ⟨c8, A8, J8, t8, k8, e8, h8, f8⟩ := h7.chr (J := J7) 32 (by omega) (by rw [tN_1, tS_1, tN_1]; omega) (x := 32) rfl
  have g8 : ∀ (b : Nat) (z : Int), inC w b → A8 b z = A b z := fun b z hb => (f8 b z hb).trans ((f7 b z hb).trans (g6 b z hb))
  obtain ⟨c9, A9, J9, t9, k9, e9, h9, f9⟩ := h8.num (J := J8) (A (w + 3) 5) (by omega) (by rw [tC_1, tN_1, tS_1, tN_1]; omega)
  obtain ⟨ca, Aa, Ja, ta, ka, ea, ha, fa⟩ := h9.chr (J := J9) 32 (by omega) (by rw [tN_1, tC_1, tN_1, tS_1, tN_1]; omega) (x := 32) rfl
  have ga : ∀ (b : Nat) (z : Int), inC w b → Aa b z = A b z := fun b z hb => (fa b z hb).trans ((f9 b z hb).trans (g8 b z hb))
  obtain ⟨cb, Ab, Jb, tb, kb, eb, hb, fb⟩ := ha.num (J := Ja) (A (w + 3) 6) (by omega) (by rw [tC_1, tN_1, tC_1, tN_1, tS_1, tN_1]; omega)
  obtain ⟨n, Ad, hn, ed, hd', fd⟩ := hb.draw (J := Jb) sc hs 0 4 (by omega) hq (x := 0) (y := 4) rfl rfl
  have PP := ((((((P4.num (A w 15) (by omega)).word 1000037 1000027 lw_37).num (A (w + 3) 4) (by omega)).sp).num (A (w + 3) 5) (by omega)).sp).num (A (w + 3) 6) (by omega)
  refine ⟨cb, Ad, Jb, tb, kb, _, n, ?_, hn, hd', PP, ?_, fun b z h2 => (fd b z (by omega)).trans ((fb b z h2).trans (ga b z h2))⟩
  · rw [hF, show (0 : Int32) = ii 0 from rfl, e1, e2, e3, e4, show (0 + 1 + 1 + 1 + 1 : Int) = 4 by omega, fX19_init_314, show (4 : Int32) = ii 4 from rfl, if_pos (Int32.le_refl _), fX19_init_344, h4.B, wdI15 h4.1.1, g4 _ _ (by omega), e5, e6, wdR1 h6.1.1, wd3 h6.1.1 4 4 rfl (by omega), g6 _ _ (by omega), e7, e8, wdR1 h8.1.1, wd3 h8.1.1 5 5 rfl (by omega), g8 _ _ (by omega), e9, ea, wdR1 ha.1.1, wd3 ha.1.1 6 6 rfl (by omega), ga _ _ (by omega), eb, ed, hF]
  · rw [tN_1, tC_1, tN_1, tC_1, tN_1, tS_1, tN_1]
    omega
/-- the World's settings and kinds; its rows are empty -/
def WKd (w : Nat) (A M : AI) (g : Int → Int) : Prop :=
  ((A (w + 3) 0 = M 0 2 ∧ A (w + 3) 1 = M 0 3 ∧ A (w + 3) 2 = M 0 4 ∧ A (w + 3) 3 = M 0 5 ∧ A (w + 3) 4 = M 0 6 ∧ A (w + 3) 5 = M 0 7 ∧ A (w + 3) 6 = M 0 8) ∧ A w 14 = M 0 9 ∧ A w 15 = g 0) ∧
  (∀ k, 0 ≤ k → k < M 0 9 → A (w + 4) k = M 2 k ∧ A (w + 8) k = M 1 k ∧ A (w + 5) k = g (6 + k)) ∧
  (A (w + 7) 0 = g 1 ∧ A (w + 7) 1 = g 2 ∧ A (w + 7) 2 = g 3 ∧ A (w + 7) 3 = g 4 ∧ A (w + 7) 4 = g 5) ∧
  (∀ k, 0 ≤ k → k < 4 → 0 ≤ A (w + 8) k ∧ A (w + 8) k ≤ 1) ∧ ∀ (b : Nat) (z : Int), (w + 10 ≤ b ∧ b < w + 18 ∨ w + 19 ≤ b ∧ b < w + 32) → A b z = 0
theorem WKd.fr (h : WKd w A M g) (e : ∀ (b : Nat) (z : Int), inC w b → A' b z = A b z) : WKd w A' M g := by
  obtain ⟨⟨⟨a0, a1, a2, a3, a4, a5, a6⟩, b1, b2⟩, hk, ⟨c0, c1, c2, c3, c4⟩, hb, hz⟩ := h
  have e3 : ∀ z, A' (w + 3) z = A (w + 3) z := fun z => e _ z (by omega)
  have e7 : ∀ z, A' (w + 7) z = A (w + 7) z := fun z => e _ z (by omega)
  refine ⟨⟨by rw [e3, e3, e3, e3, e3, e3, e3]; exact ⟨a0, a1, a2, a3, a4, a5, a6⟩, by rw [e _ _ (by omega)]; exact b1, by rw [e _ _ (by omega)]; exact b2⟩, fun k x y => by rw [e _ _ (by omega), e _ _ (by omega), e _ _ (by omega)]; exact hk k x y, by rw [e7, e7, e7, e7, e7]; exact ⟨c0, c1, c2, c3, c4⟩, fun k x y => by rw [e _ _ (by omega)]; exact hb k x y, fun b z x => by rw [e _ _ (by omega)]; exact hz b z x⟩
theorem kM_0 (M : AI) (m L z : Int) (h : z ≠ 9) : kM M m L 0 z = M 0 z := by
  unfold kM
  rw [up_n _ _ _ _ _ _ (by omega), up_n _ _ _ _ _ _ (by omega), up_n _ _ _ _ _ _ (by omega)]
theorem kM_9 (M : AI) (m L : Int) : kM M m L 0 9 = M 0 9 + 1 := up_s _ _ _ _
theorem kM_1 (M : AI) (m L k : Int) : kM M m L 1 k = if k = M 0 9 then m else M 1 k := by
  unfold kM
  rw [up_n _ _ _ _ _ _ (by omega), up_n _ _ _ _ _ _ (by omega)]
  by_cases y : k = M 0 9
  · rw [if_pos y, y, up_s]
  · rw [if_neg y, up_n _ _ _ _ _ _ (by omega)]
theorem kM_2 (M : AI) (m L k : Int) : kM M m L 2 k = if k = M 0 9 then L else M 2 k := by
  unfold kM
  rw [up_n _ _ _ _ _ _ (by omega)]
  by_cases y : k = M 0 9
  · rw [if_pos y, y, up_s]
  · rw [if_neg y, up_n _ _ _ _ _ _ (by omega), up_n _ _ _ _ _ _ (by omega)]
/-- so far told: these lines, this content -/
abbrev KIv (s : Int → Int) (qn : Int) (w : Nat) (A M : AI) (g : Int → Int) (p : TP) (ls : List Ln) : Prop := Pth (hdS s qn) ls (M, g, 0) ∧ LdG M g ∧ WKd w A M g ∧ PreO p (hdT s qn ++ lnTs ls) ∧ ((ls.length : Int) ≤ M 0 9 ∧ p.1 ≤ 60 + 16 * M 0 9) ∧ (∀ l, l ∈ ls → l.2.2.length < 100) ∧ M 0 2 ≤ 120 ∧ rwZ g
/-- what the kinds' loop leads to -/
abbrev KR2 (NC NS w d : Nat) (sc : Nat × (Nat → Int32)) (s : Int → Int) (qn qf : Int) (x : Option AR) : Prop := ∃ (c' : CC) (A' : AI) (J' : JI) (tvb' capb' : Nat) (p' : TP) (M' : AI) (g' : Int → Int) (ls' : List Ln), x = fX19_init_568 sc w d (CW c' A' J') ∧ WI NC NS w d c' A' J' tvb' capb' p' qf ∧ KIv s qn w A' M' g' p' ls' ∧ M' 0 9 ≤ 4
theorem w_527 {s : Int → Int} {qn : Int} {ls : List Ln} {r406 : _} (h : WI NC NS w d c A J tvb capb p q) (m L v : Int) (hm : m = 0 ∨ m = 1) (hL : 1 ≤ L ∧ L ≤ 99) (hv : 0 ≤ v ∧ v ≤ 99) (hP : PreO p (hdT s qn ++ lnTs ls)) (hp : p.1 ≤ 500) (n : Int) (hn : 0 ≤ n ∧ n < 4) (h14 : A w 14 = n) (h5 : A (w + 5) n = v) (x2 : Int32) (x : Nat) (hx : x = if m = 0 then 1000039 else 1000038) : ∃ (c' : CC) (A' : AI) (J' : JI) (tvb' capb' : Nat) (p' : TP), fX19_init_527 sc r406 w d x2 (ii L) (w + 1) x (CW c A J) = fX19_init_562 sc r406 w d x2 (CW c' (up A' w 14 (n + 1)) J') ∧ WI NC NS w d c' A' J' tvb' capb' p' q ∧ PreO p' (hdT s qn ++ lnTs (ls ++ [(m, L, [v])])) ∧ p'.1 ≤ p.1 + 16 ∧ ∀ (b : Nat) (z : Int), inC w b → A' b z = A b z := by
  obtain ⟨-, -, w38, w39, -⟩ := w_lens2
  have nd1 := nd_b L
  have nd2 := nd_b v
  have hxx : (1000026 ≤ x ∧ x < 1000045) ∧ lwOK x (lnW (m, L, [v])) ∧ wlen x ≤ 7 := by
    rw [hx]
    rcases hm with rfl | rfl
    · exact ⟨by rw [if_pos rfl]; omega, by rw [if_pos rfl]; exact lw_39, by rw [if_pos rfl]; omega⟩
    · exact ⟨by rw [if_neg (by omega)]; omega, by rw [if_neg (by omega)]; exact lw_38, by rw [if_neg (by omega)]; omega⟩
  obtain ⟨c1, A1, J1, t1, k1, e1, h1, f1⟩ := h.str (J := J) x hxx.1 (by omega)
  obtain ⟨c2, A2, J2, t2, k2, e2, h2, f2⟩ := h1.num (J := J1) L (by omega) (by rw [tS_1]; omega)
  obtain ⟨c3, A3, J3, t3, k3, e3, h3, f3⟩ := h2.chr (J := J2) 32 (by omega) (by rw [tN_1, tS_1]; omega) (x := 32) rfl
  have g3 : ∀ (b : Nat) (z : Int), inC w b → A3 b z = A b z := fun b z hb => (f3 b z hb).trans ((f2 b z hb).trans (f1 b z hb))
  obtain ⟨c4, A4, J4, t4, k4, e4, h4, f4⟩ := h3.num (J := J3) v (by omega) (by rw [tC_1, tN_1, tS_1]; omega)
  have g4 : ∀ (b : Nat) (z : Int), inC w b → A4 b z = A b z := fun b z hb => (f4 b z hb).trans (g3 b z hb)
  have PP := (((hP.word x _ hxx.2.1).num L (by omega)).sp).num v (by omega)
  have eT : hdT s qn ++ lnTs ls ++ [(3, 0), (1, (lnW (m, L, [v]) : Int))] ++ [(2, L)] ++ [(2, v)] = hdT s qn ++ lnTs (ls ++ [(m, L, [v])]) := by
    rw [lnTs_snoc, List.append_assoc, List.append_assoc, List.append_assoc]
    rfl
  rw [eT] at PP
  refine ⟨c4, A4, J4, t4, k4, _, ?_, h4, PP, by rw [tN_1, tC_1, tN_1, tS_1]; omega, g4⟩
  have s14 : ∀ k : AS → Option AR, sI (CW c4 A4 J4) w 13 14 (ii (n + 1)) k = k (CW c4 (up A4 w 14 (n + 1)) J4) := fun k => wdS14 h4.1.1 (n + 1) k
  rw [fX19_init_527, e1, e2, e3, wdR3 h3.1.1, wdI14 h3.1.1, g3 _ _ (by omega), h14, wdA5 h3.1.1 n _ (by omega), g3 _ _ (by omega), h5, e4, wdI14 h4.1.1, g4 _ _ (by omega), h14, ii_s, s14]
/-- a new kind -/
theorem w_446 {s : Int → Int} {qn : Int} {ls : List Ln} {r406 : _} (h : WI NC NS w d c A J tvb capb p q) (hs : sc.1 < 2147483648) (hq : q + 2 ≤ 1000) (hK : KIv s qn w A M g p ls) (h9 : M 0 9 < 4) (m L : Int) (hm : m = 0 ∨ m = 1) (hL : 1 ≤ L ∧ L ≤ 99) (x2 : Int32) {t0 : Int32} (ht : t0 = ii m) : ∃ (c' : CC) (A' : AI) (J' : JI) (tvb' capb' : Nat) (p' : TP) (M' : AI) (g' : Int → Int) (ls' : List Ln), fX19_init_446 sc r406 w d x2 (ii L) t0 (CW c A J) = fX19_init_562 sc r406 w d x2 (CW c' A' J') ∧ WI NC NS w d c' A' J' tvb' capb' p' (q + 2) ∧ KIv s qn w A' M' g' p' ls' ∧ M' 0 9 ≤ M 0 9 + 1 := by
  obtain ⟨hp, hG, hW, hP, ⟨hl, hpl⟩, hll, h120, hrw⟩ := id hK
  obtain ⟨hS0, hk, hc, hb, hz⟩ := id hW
  have hd := h.2.2.1.2
  have hM := hG.1
  have h90 := hM.1.2.2.2.2.2.2.2
  have h14 : A w 14 = M 0 9 := hS0.2.1
  have ek := n_kind (J := J) h.1.1 m L (n := M 0 9) (met := M 1) (len := M 2) ⟨h90.1, by omega⟩ h14 (fun k a b => ⟨⟨(hk k a b).2.1, (hk k a b).1⟩, hM.2.1 k a (by omega), hM.2.2.1 k a (by omega)⟩) (by omega) (by omega)
  rcases fdN_b (M 1) (M 2) m L (M 0 9).toNat 0 (by omega) with ⟨y1, y2⟩ | y
  · rw [y1] at ek
    have k1 := (h.cell (w + 4) (M 0 9) L (by omega)).cell (w + 8) (M 0 9) m (by omega)
    obtain ⟨u, A2, hu, e2, h2, f2⟩ := k1.draw (J := J) sc hs 0 2 (by omega) (by omega) (x := 0) (y := 2) rfl rfl
    have key : ∀ (hi : Int) (yy : Int32), (0 ≤ hi ∧ hi ≤ 99) → yy = ii hi → ∃ (c' : CC) (A' : AI) (J' : JI) (tvb' capb' : Nat) (p' : TP) (M' : AI) (g' : Int → Int) (ls' : List Ln), fX19_init_507 sc r406 w d x2 (ii L) t0 (w + 5) (ii (M 0 9)) d 0 yy (CW c A2 J) = fX19_init_562 sc r406 w d x2 (CW c' A' J') ∧ WI NC NS w d c' A' J' tvb' capb' p' (q + 2) ∧ KIv s qn w A' M' g' p' ls' ∧ M' 0 9 ≤ M 0 9 + 1 := by
      intro hi yy hhi hyy
      obtain ⟨v, A3, hv, e3, h3, f3⟩ := h2.draw (J := J) sc hs 0 hi (by omega) (by omega) (x := 0) rfl hyy
      have h3' := h3.cell (w + 5) (M 0 9) v (by omega)
      have fA : ∀ (b : Nat) (z : Int), inC w b → ¬ (b = w + 4 ∧ z = M 0 9) → ¬ (b = w + 8 ∧ z = M 0 9) → ¬ (b = w + 5 ∧ z = M 0 9) → up A3 (w + 5) (M 0 9) v b z = A b z := fun b z x1 x2 x3 x4 => by
        rw [up_n _ _ _ _ _ _ x4, f3 _ _ (by omega), f2 _ _ (by omega), up_n _ _ _ _ _ _ x3, up_n _ _ _ _ _ _ x2]
      have c4 : up A3 (w + 5) (M 0 9) v (w + 4) (M 0 9) = L := by rw [up_n _ _ _ _ _ _ (by omega), f3 _ _ (by omega), f2 _ _ (by omega), up_n _ _ _ _ _ _ (by omega), up_s]
      have c8 : up A3 (w + 5) (M 0 9) v (w + 8) (M 0 9) = m := by rw [up_n _ _ _ _ _ _ (by omega), f3 _ _ (by omega), f2 _ _ (by omega), up_s]
      obtain ⟨c5, A5, J5, t5, k5, p5, e5, h5, P5, b5, f5⟩ := w_527 (sc := sc) (r406 := r406) h3' m L v hm hL (by omega) hP (by omega) (M 0 9) ⟨h90.1, h9⟩ ((fA _ _ (by omega) (by omega) (by omega) (by omega)).trans h14) (up_s _ _ _ _) x2 (if m = 0 then 1000039 else 1000038) rfl
      have g5 : ∀ (b : Nat) (z : Int), inC w b → ¬ (b = w ∧ z = 14) → up A5 w 14 (M 0 9 + 1) b z = up A3 (w + 5) (M 0 9) v b z := fun b z x1 x2 => by rw [up_n _ _ _ _ _ _ x2]; exact f5 b z x1
      have hno : ∀ j, 0 ≤ j → j < M 0 9 → ¬ (M 1 j = m ∧ M 2 j = L) := fun j a b => y2 j a (by omega)
      refine ⟨c5, up A5 w 14 (M 0 9 + 1), J5, t5, k5, p5, kM M m L, gu g (6 + M 0 9) v, ls ++ [(m, L, [v])], ?_, (h5.cell w 14 _ (by omega)).mono (by omega), ⟨hp.snoc (Or.inr ⟨hm, v, rfl, ⟨hL, by omega⟩, h9, hno, rfl⟩), hG.kind (M 0 9) m L v ⟨rfl, by omega⟩ ⟨by omega, hL, by omega⟩ (kM_9 M m L) (fun z a b => kM_0 M m L z (by omega)) (fun k _ _ => kM_1 M m L k) (fun k _ _ => kM_2 M m L k), ⟨⟨?_, ?_, ?_⟩, fun k a b => ?_, ?_, fun k a b => ?_, fun b z x => ?_⟩, P5, ?_, fun l hl2 => ?_, by rw [kM_0 _ _ _ _ (by omega)]; exact h120, fun r a b => by rw [cel_gu _ _ _ _ _ (by omega), cel_gu _ _ _ _ _ (by omega), cel_gu _ _ _ _ _ (by omega), cel_gu _ _ _ _ _ (by omega), cel_gu _ _ _ _ _ (by omega)]; exact hrw r a b⟩, by rw [kM_9]; omega⟩
      · have hB5 := h3'.B
        rw [fX19_init_507, e3, wdU5 h3.1.1 _ _ _ (by omega), h3'.B]
        rcases hm with rfl | rfl
        · rw [if_pos rfl] at e5
          rw [ht, if_pos ii_0, e5]
        · rw [if_neg (by omega)] at e5
          rw [ht, if_neg (by decide), e5]
      · have e3' : ∀ z, up A5 w 14 (M 0 9 + 1) (w + 3) z = A (w + 3) z := fun z => (g5 _ _ (by omega) (by omega)).trans (fA _ _ (by omega) (by omega) (by omega) (by omega))
        rw [e3', e3', e3', e3', e3', e3', e3', kM_0 _ _ _ _ (by omega), kM_0 _ _ _ _ (by omega), kM_0 _ _ _ _ (by omega), kM_0 _ _ _ _ (by omega), kM_0 _ _ _ _ (by omega), kM_0 _ _ _ _ (by omega), kM_0 _ _ _ _ (by omega)]
        exact hS0.1
      · rw [up_s, kM_9]
      · rw [g5 _ _ (by omega) (by omega), fA _ _ (by omega) (by omega) (by omega) (by omega), gu_n _ _ _ _ (by omega)]
        exact hS0.2.2
      · rw [kM_9] at b
        rw [g5 _ _ (by omega) (by omega), g5 _ _ (by omega) (by omega), g5 _ _ (by omega) (by omega), kM_1, kM_2]
        by_cases y : k = M 0 9
        · rw [if_pos y, if_pos y, y, c4, c8, up_s, gu_s]
          exact ⟨rfl, rfl, rfl⟩
        · rw [if_neg y, if_neg y, fA _ _ (by omega) (by omega) (by omega) (by omega), fA _ _ (by omega) (by omega) (by omega) (by omega), fA _ _ (by omega) (by omega) (by omega) (by omega), gu_n _ _ _ _ (by omega)]
          exact hk k a (by omega)
      · have e7' : ∀ z, up A5 w 14 (M 0 9 + 1) (w + 7) z = A (w + 7) z := fun z => (g5 _ _ (by omega) (by omega)).trans (fA _ _ (by omega) (by omega) (by omega) (by omega))
        rw [e7', e7', e7', e7', e7', gu_n _ _ _ _ (by omega), gu_n _ _ _ _ (by omega), gu_n _ _ _ _ (by omega), gu_n _ _ _ _ (by omega), gu_n _ _ _ _ (by omega)]
        exact hc
      · rw [g5 _ _ (by omega) (by omega)]
        by_cases y : k = M 0 9
        · rw [y, c8]; omega
        · rw [fA _ _ (by omega) (by omega) (by omega) (by omega)]
          exact hb k a b
      · rw [g5 _ _ (by omega) (by omega), fA _ _ (by omega) (by omega) (by omega) (by omega)]
        exact hz b z x
      · rw [kM_9, List.length_append]
        show (((ls.length + 1 : Nat)) : Int) ≤ _ ∧ _
        omega
      · rw [List.mem_append] at hl2
        rcases hl2 with hl2 | hl2
        · exact hll l hl2
        · rw [List.mem_singleton] at hl2
          rw [hl2]
          exact (by decide : (1 : Nat) < 100)
    have st : fX19_init_446 sc r406 w d x2 (ii L) t0 (CW c A J) = if ii u = 0 then fX19_init_507 sc r406 w d x2 (ii L) t0 (w + 5) (ii (M 0 9)) d 0 9 (CW c A2 J) else fX19_init_507 sc r406 w d x2 (ii L) t0 (w + 5) (ii (M 0 9)) d 0 4 (CW c A2 J) := by
      have h14a : up A (w + 4) (M 0 9) L w 14 = M 0 9 := by rw [up_n _ _ _ _ _ _ (by omega)]; exact h14
      have h14b : up (up A (w + 4) (M 0 9) L) (w + 8) (M 0 9) m w 14 = M 0 9 := by rw [up_n _ _ _ _ _ _ (by omega)]; exact h14a
      have u8 : ∀ (E : AI) (k : AS → Option AR), uN 101 .boolean (CW c E J) (w + 8) (ii (M 0 9)) (ii m) k = k (CW c (up E (w + 8) (M 0 9) m) J) := fun E k => wdU8 h.1.1 (M 0 9) m k (by omega)
      rw [ht] at *
      rw [fX19_init_446, wdV h.1.1, ek, k_C, q_I, if_pos (by rw [il0, ii_lt _ _ (by omega)]; omega), wdR2 h.1.1, wdI14 h.1.1, h14, wdU4 h.1.1 _ _ _ (by omega), wdR6 h.1.1, wdI14 h.1.1, h14a, u8, wdR3 h.1.1, wdI14 h.1.1, h14b, e2]
    rw [st]
    by_cases z : ii u = 0
    · rw [if_pos z]
      exact key 9 9 (by omega) rfl
    · rw [if_neg z]
      exact key 4 4 (by omega) rfl
  · refine ⟨c, A, J, tvb, capb, p, M, g, ls, ?_, h.mono (by omega), hK, by omega⟩
    rw [ht, fX19_init_446, wdV h.1.1, ek, k_C, q_I, if_neg (by rw [il0, ii_lt _ _ (by omega)]; omega)]
theorem w_406 {s : Int → Int} {qn : Int} (hs : sc.1 < 2147483648) (x : Int) (hx : 0 ≤ x ∧ x ≤ 4) {ls : List Ln} (h : WI NC NS w d c A J tvb capb p q) (hq : q + 40 ≤ qf ∧ qf ≤ 1000) (hK : KIv s qn w A M g p ls) (h9 : M 0 9 + x ≤ 4) : KR2 NC NS w d sc s qn qf (fX19_init_406 sc FU w d (ii x) (CW c A J)) := by
  refine lpd (fun f x (s : CC × AI × JI) => fX19_init_406 sc f w d (ii x) (CW s.1 s.2.1 s.2.2)) (KR2 NC NS w d sc s qn qf) (fun x S => (0 ≤ x ∧ x ≤ 4) ∧ ∃ (tvb capb : Nat) (p : TP) (q : Int) (M : AI) (g : Int → Int) (ls : List Ln), WI NC NS w d S.1 S.2.1 S.2.2 tvb capb p q ∧ q + 10 * x ≤ qf ∧ KIv s qn w S.2.1 M g p ls ∧ M 0 9 + x ≤ 4) 0 ?_ ?_ FU x (c, A, J) (by omega) ⟨hx, tvb, capb, p, q, M, g, ls, h, by omega, hK, h9⟩ (by have := FU_e; omega)
  · rintro f x ⟨c1, A1, J1⟩ hi ⟨hx, tvb, capb, p, q, M, g, ls, h, hq1, hK, h9⟩
    dsimp only at h hK ⊢
    have hd := h.2.2.1.2
    obtain ⟨u, A2, hu, e2, h2, f2⟩ := h.draw (J := J1) sc hs 0 2 (by omega) (by omega) (x := 0) (y := 2) rfl rfl
    have key : ∀ (hi : Int) (yy : Int32), (1 ≤ hi ∧ hi ≤ 99) → yy = ii hi → ∃ (c' : CC) (A' : AI) (J' : JI) (tvb' capb' : Nat) (p' : TP) (M' : AI) (g' : Int → Int) (ls' : List Ln), fX19_init_428 sc (fX19_init_406 sc f) w d (ii x) d 1 yy (CW c1 A2 J1) = fX19_init_562 sc (fX19_init_406 sc f) w d (ii x) (CW c' A' J') ∧ WI NC NS w d c' A' J' tvb' capb' p' (q + 10) ∧ KIv s qn w A' M' g' p' ls' ∧ M' 0 9 ≤ M 0 9 + 1 := by
      intro hi yy hhi hyy
      obtain ⟨L, A3, hL, e3, h3, f3⟩ := h2.draw (J := J1) sc hs 1 hi (by omega) (by omega) (x := 1) rfl hyy
      obtain ⟨b, A4, hb, e4, h4, f4⟩ := h3.draw (J := J1) sc hs 0 1 (by omega) (by omega) (x := 0) (y := 1) rfl rfl
      have hK4 : KIv s qn w A4 M g p ls := ⟨hK.1, hK.2.1, hK.2.2.1.fr (fun b z hb => (f4 _ _ (by omega)).trans ((f3 _ _ (by omega)).trans (f2 _ _ (by omega)))), hK.2.2.2⟩
      by_cases y : b = 0
      · obtain ⟨c5, A5, J5, t5, k5, p5, M5, g5, ls5, e5, h5, K5, m5⟩ := w_446 (r406 := fX19_init_406 sc f) h4 hs (by omega) hK4 (by omega) 1 L (Or.inr rfl) (by omega) (ii x) (t0 := 1) rfl
        refine ⟨c5, A5, J5, t5, k5, p5, M5, g5, ls5, ?_, h5.mono (by omega), K5, m5⟩
        rw [fX19_init_428, e3, e4, if_pos (by rw [y]; rfl), e5]
      · obtain ⟨c5, A5, J5, t5, k5, p5, M5, g5, ls5, e5, h5, K5, m5⟩ := w_446 (r406 := fX19_init_406 sc f) h4 hs (by omega) hK4 (by omega) 0 L (Or.inl rfl) (by omega) (ii x) (t0 := 0) rfl
        refine ⟨c5, A5, J5, t5, k5, p5, M5, g5, ls5, ?_, h5.mono (by omega), K5, m5⟩
        rw [fX19_init_428, e3, e4, if_neg (by rw [il0, ii_eq _ _ (by omega)]; exact y), e5]
    have st : fX19_init_406 sc (f + 1) w d (ii x) (CW c1 A1 J1) = if ii u = 0 then fX19_init_428 sc (fX19_init_406 sc f) w d (ii x) d 1 99 (CW c1 A2 J1) else fX19_init_428 sc (fX19_init_406 sc f) w d (ii x) d 1 9 (CW c1 A2 J1) := by
      rw [fX19_init_406, if_neg (by rw [il0, ii_le _ _ (by omega)]; omega), e2]
    have fin : ∃ (c' : CC) (A' : AI) (J' : JI) (tvb' capb' : Nat) (p' : TP) (M' : AI) (g' : Int → Int) (ls' : List Ln), fX19_init_406 sc (f + 1) w d (ii x) (CW c1 A1 J1) = fX19_init_562 sc (fX19_init_406 sc f) w d (ii x) (CW c' A' J') ∧ WI NC NS w d c' A' J' tvb' capb' p' (q + 10) ∧ KIv s qn w A' M' g' p' ls' ∧ M' 0 9 ≤ M 0 9 + 1 := by
      rw [st]
      by_cases z : ii u = 0
      · rw [if_pos z]
        exact key 99 99 (by omega) rfl
      · rw [if_neg z]
        exact key 9 9 (by omega) rfl
    obtain ⟨c5, A5, J5, t5, k5, p5, M5, g5, ls5, e5, h5, K5, m5⟩ := fin
    refine Or.inr ⟨(c5, A5, J5), ⟨by omega, t5, k5, p5, q + 10, M5, g5, ls5, h5, by omega, K5, by omega⟩, ?_⟩
    show fX19_init_406 sc (f + 1) w d (ii x) (CW c1 A1 J1) = _
    rw [e5, fX19_init_562, show ((-1) : Int32) = ii (-1) from rfl, ii_add, lt_q]
    rfl
  · rintro f ⟨c1, A1, J1⟩ ⟨hx, tvb, capb, p, q, M, g, ls, h, hq1, hK, h9⟩
    dsimp only at h hK ⊢
    refine ⟨c1, A1, J1, tvb, capb, p, M, g, ls, ?_, h.mono (by omega), hK, by omega⟩
    rw [fX19_init_406, if_pos (show ii 0 ≤ (0 : Int32) from by decide)]
end WI3
