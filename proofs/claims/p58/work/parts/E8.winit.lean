/-! THE LAW'S WORLD: how it is made; its content -/
section LDG
variable {M M' : AI} {g : Int → Int}
abbrev LdG (M : AI) (g : Int → Int) : Prop := SA M ∧ GC M g 0 ∧ ∀ r, 0 ≤ r → r < 8 → cel g r 1 = 0
theorem LdG.kind (h : LdG M g) (n m L v : Int) (hn : n = M 0 9 ∧ n < 10) (hm : (0 ≤ m ∧ m ≤ 1) ∧ (1 ≤ L ∧ L ≤ 99) ∧ 0 ≤ v ∧ v ≤ 99)
    (h9 : M' 0 9 = n + 1) (h0 : ∀ z, 2 ≤ z → z ≤ 8 → M' 0 z = M 0 z) (e1 : ∀ k, 0 ≤ k → k < 10 → M' 1 k = if k = n then m else M 1 k) (e2 : ∀ k, 0 ≤ k → k < 10 → M' 2 k = if k = n then L else M 2 k) : LdG M' (gu g (6 + n) v) := by
  obtain ⟨hM, hG, hp⟩ := h
  have hn0 := hM.1.2.2.2.2.2.2.2
  have hg := hG.1.1
  have cg : ∀ r w, 0 ≤ r → 0 ≤ w → cel (gu g (6 + n) v) r w = cel g r w := fun r w a b => cel_gu _ _ _ _ _ (by omega)
  have zcn : ∀ (h : Int → Int) r k, cel h r 1 = 0 → cnt h r k = 0 := fun h r k q => by
    unfold cnt
    rw [q]
    rfl
  have gap : ∀ r, 0 ≤ r → r < M 0 3 → gapM M' (gu g (6 + n) v) r = gapM M g r := fun r a b => by
    have q := hp r a (by have := hM.1.2.1; omega)
    unfold gapM suB uQ suP
    simp only [cg r _ a (show (0 : Int) ≤ 0 by omega), cg r _ a (show (0 : Int) ≤ 1 by omega), cg r _ a (show (0 : Int) ≤ 2 by omega), cg r _ a (show (0 : Int) ≤ 3 by omega), h0 2 (by omega) (by omega), h0 4 (by omega) (by omega), q]
    have hB : sm (fun k => cel (gu g (6 + n) v) r (5 + k)) (cel g r 0) = sm (fun k => cel g r (5 + k)) (cel g r 0) := sm_c _ _ _ (fun k p _ => cg r _ a (by omega))
    rw [hB]
    rfl
  refine ⟨⟨?_, fun k a b => ?_, fun k a b => ?_, fun k a b => ?_⟩, ⟨⟨fun r a b => ?_, fun r a b q => ?_, fun r a b => ?_, fun r a b k p q => ?_, fun r a b => ?_⟩, fun k a b => ?_, ?_, fun r a b q => ?_, fun r a b => ?_⟩, fun r a b => ?_⟩
  · rw [h0 2 (by omega) (by omega), h0 3 (by omega) (by omega), h0 4 (by omega) (by omega), h0 5 (by omega) (by omega), h0 6 (by omega) (by omega), h0 7 (by omega) (by omega), h0 8 (by omega) (by omega), h9]
    obtain ⟨a1, a2, a3, a4, a5, a6, a7, a8⟩ := hM.1
    exact ⟨a1, a2, a3, a4, a5, a6, a7, by omega⟩
  · rw [e1 k a b]
    split
    · exact hm.1
    · exact hM.2.1 k a b
  · rw [e2 k a b]
    split
    · omega
    · exact hM.2.2.1 k a b
  · rw [e2 k a (by omega)]
    split
    · omega
    · exact hM.2.2.2 k a (by omega)
  · exact RG.cong (hg r a b) (fun w p q => cg r w a p)
  · rw [cg r 3 a (by omega)]
    rw [cg r 2 a (by omega)] at q
    exact hG.1.2.1 r a b q
  · rw [h0 3 (by omega) (by omega)] at a
    have a' : 0 ≤ r := by have := hM.1.2.1; omega
    rw [cg r 0 a' (by omega), cg r 1 a' (by omega), cg r 2 a' (by omega), cg r 3 a' (by omega), cg r 4 a' (by omega)]
    exact hG.1.2.2.1 r a b
  · rw [cg r 1 a (by omega), hp r a b] at q
    omega
  · rw [cg r 4 a (by omega)]
    exact hG.1.2.2.2.2 r a b
  · have z1 : sm (fun r => cnt (gu g (6 + n) v) r k) 8 = 0 := sm_z _ 8 (fun r p q => zcn _ r k (by rw [cg r 1 p (by omega)]; exact hp r p q))
    have z2 : sm (fun r => cnt g r k) 8 = 0 := sm_z _ 8 (fun r p q => zcn _ r k (hp r p q))
    have z3 := hG.2.1 k a b
    rw [z2] at z3
    rw [z1]
    unfold lim at z3 ⊢
    by_cases q : k = n
    · rw [q, gu_s, if_neg (by omega)]
      omega
    · rw [gu_n _ _ _ _ (by omega)]
      by_cases q2 : M 0 9 ≤ k
      · rw [if_pos q2] at z3
        rw [if_pos (by omega)]
        exact z3
      · rw [if_neg q2] at z3
        rw [if_neg (by omega)]
        exact z3
  · have z1 : sm (fun r => qi (gu g (6 + n) v) r) 8 = sm (fun r => qi g r) 8 := sm_c _ _ _ (fun r p q => by dsimp only [qi]; rw [cg r 2 p (by omega)])
    rw [z1, gu_n _ _ _ _ (by omega)]
    exact hG.2.2.1
  · rw [cg r 2 a (by omega)] at q ⊢
    rw [cg r 3 a (by omega), h0 5 (by omega) (by omega)]
    exact hG.2.2.2.1 r a b q
  · rw [h0 3 (by omega) (by omega)] at b
    rw [gap r a b]
    exact hG.2.2.2.2 r a b
  · rw [cg r 1 a (by omega)]
    exact hp r a b
end LDG
/-- the cells of the World that tell its content -/
abbrev inC (w b : Nat) : Prop := b = w ∨ w + 3 ≤ b ∧ b < w + 32
section WIN
variable {c c' c2 : CC} {A A' A2 : AI} {J J' J2 : JI} {M : AI} {g o : Int → Int} {w d tvb capb NC NS tvb' capb' : Nat} {p p' : TP} {q q' : Int}
theorem WR.fr2 (hR : WR w A M o g) (e : ∀ (b : Nat) (z : Int), inC w b → A' b z = A b z) (h8 : M 0 3 ≤ 8) : WR w A' M o g := by
  obtain ⟨⟨⟨s0, s1, s2, s3, s4, s5, s6⟩, sK, sQ⟩, hKd, ⟨c0, c1, c2, c3, c4⟩, hRo, hOr⟩ := hR
  have ee : ∀ (i : Nat) (z : Int), 3 ≤ i ∧ i < 32 → A' (w + i) z = A (w + i) z := fun i z hi => e _ z (Or.inr ⟨by omega, by omega⟩)
  have e0 : ∀ z : Int, A' w z = A w z := fun z => e _ z (Or.inl rfl)
  have e10 : ∀ (r z : Int), 0 ≤ r → r < M 0 3 → A' (w + 10 + r.toNat) z = A (w + 10 + r.toNat) z := fun r z a b => e _ z (Or.inr ⟨by omega, by omega⟩)
  have e19 : ∀ (r z : Int), 0 ≤ r → r < M 0 3 → A' (w + 19 + r.toNat) z = A (w + 19 + r.toNat) z := fun r z a b => e _ z (Or.inr ⟨by omega, by omega⟩)
  refine ⟨⟨⟨?_, ?_, ?_, ?_, ?_, ?_, ?_⟩, ?_, ?_⟩, fun k a b => ?_, ⟨?_, ?_, ?_, ?_, ?_⟩, fun r a b => ?_, fun p a b => ?_, fun k a b => ?_⟩
  · rw [ee 3 _ (by omega)]; exact s0
  · rw [ee 3 _ (by omega)]; exact s1
  · rw [ee 3 _ (by omega)]; exact s2
  · rw [ee 3 _ (by omega)]; exact s3
  · rw [ee 3 _ (by omega)]; exact s4
  · rw [ee 3 _ (by omega)]; exact s5
  · rw [ee 3 _ (by omega)]; exact s6
  · rw [e0]; exact sK
  · rw [e0]; exact sQ
  · rw [ee 4 _ (by omega), ee 8 _ (by omega), ee 5 _ (by omega)]; exact hKd k a b
  · rw [ee 7 _ (by omega)]; exact c0
  · rw [ee 7 _ (by omega)]; exact c1
  · rw [ee 7 _ (by omega)]; exact c2
  · rw [ee 7 _ (by omega)]; exact c3
  · rw [ee 7 _ (by omega)]; exact c4
  · obtain ⟨h1, h2, h3⟩ := hRo r a b
    refine ⟨?_, fun k p q => ?_, fun k p q => ?_⟩
    · rw [ee 27 _ (by omega), ee 28 _ (by omega), ee 29 _ (by omega), ee 30 _ (by omega), ee 31 _ (by omega)]; exact h1
    · rw [e10 r k a b]; exact h2 k p q
    · rw [e19 r k a b]; exact h3 k p q
  · rw [ee 6 _ (by omega)]; exact hOr.1 p a b
  · rw [ee 8 _ (by omega)]; exact hOr.2 k a b

/-- the World while it is made: its builder, the draws, the room -/
def WI (NC NS w d : Nat) (c : CC) (A : AI) (J : JI) (tvb capb : Nat) (p : TP) (q : Int) : Prop :=
  (isWorld c w ∧ ptr c w 0 (w + 1)) ∧ (TG c A (w + 1) tvb capb p ∧ (tvb = w + 2 ∨ w + 32 ≤ tvb)) ∧ (isDraws c d ∧ d < w) ∧ (0 ≤ A d 1 ∧ A d 1 ≤ q ∧ q ≤ 1000) ∧ (capb : Int) ≤ 23 + 2 * p.1 ∧ (w + 32 ≤ c.2.2.1 ∧ c.2.2.1 ≤ w + 32 + capb ∧ c.2.2.2.1 ≤ NC + capb ∧ c.2.2.2.2 ≤ NS + 2 * capb)
theorem WI.mono (h : WI NC NS w d c A J tvb capb p q) (hq : q ≤ q' ∧ q' ≤ 1000) : WI NC NS w d c A J tvb capb p q' := ⟨h.1, h.2.1, h.2.2.1, by have := h.2.2.2.1; omega, h.2.2.2.2⟩
theorem WI.cell (h : WI NC NS w d c A J tvb capb p q) (b : Nat) (z v : Int) (hb : inC w b) : WI NC NS w d c (up A b z v) J tvb capb p q := by
  obtain ⟨h1, ⟨⟨t1, t2, t3, t4, t5⟩, ht⟩, h3, h4, h5, h6⟩ := h
  have e1 : ∀ y : Int, up A b z v (w + 1) y = A (w + 1) y := fun y => up_n _ _ _ _ _ _ (by omega)
  have e2 : ∀ y : Int, up A b z v tvb y = A tvb y := fun y => up_n _ _ _ _ _ _ (by omega)
  refine ⟨h1, ⟨⟨t1, by rw [e1, e1]; exact t2, t3, fun k a b => by rw [e2]; exact t4 k a b, fun k a b => by rw [e2]; exact t5 k a b⟩, ht⟩, h3, by rw [up_n _ _ _ _ _ _ (by omega)]; exact h4, h5, h6⟩
theorem WI.draw (h : WI NC NS w d c A J tvb capb p q) (sc : Nat × (Nat → Int32)) (hs : sc.1 < 2147483648) (lo hi : Int) (hl : (-1000 ≤ lo ∧ lo ≤ hi) ∧ hi ≤ 1000) (hq : q < 1000) {x y : Int32} (hx : x = ii lo) (hy : y = ii hi) : ∃ (v : Int) (A' : AI), (lo ≤ v ∧ v ≤ hi) ∧ (∀ K : Int32 → AS → Option AR, cV (CW c A J) d 11 (fX17_next sc d x y (CW c A J)) (qI K) = K (ii v) (CW c A' J)) ∧ WI NC NS w d c A' J tvb capb p (q + 1) ∧ ∀ (b : Nat) (z : Int), b ≠ d → A' b z = A b z := by
  obtain ⟨h1, ⟨⟨t1, t2, t3, t4, t5⟩, ht⟩, ⟨hd, hdw⟩, h4, h5, h6⟩ := h
  obtain ⟨v, hv, e⟩ := n_next (A := A) (J := J) hd sc hs lo hi hl (by omega)
  have hf : ∀ (b : Nat) (z : Int), b ≠ d → up A d 1 (A d 1 + 1) b z = A b z := fun b z hb => up_n _ _ _ _ _ _ (fun e => hb e.1)
  refine ⟨v, up A d 1 (A d 1 + 1), hv, fun K => by rw [hx, hy, drV hd, e, k_C, q_I], ⟨h1, ⟨⟨t1, by rw [hf _ _ (by omega), hf _ _ (by omega)]; exact t2, t3, fun k a b => by rw [hf _ _ (by omega)]; exact t4 k a b, fun k a b => by rw [hf _ _ (by omega)]; exact t5 k a b⟩, ht⟩, ⟨hd, hdw⟩, by rw [up_s]; omega, h5, h6⟩, hf⟩
/-- the builder goes on -/
theorem WI.glb (h : WI NC NS w d c A J tvb capb p q) (hT : TG c' A' (w + 1) tvb' capb' p') (hG : GLb (w + 1) c c' capb capb' A A' J J') (hc : capb' ≤ capb ∨ (capb' : Int) ≤ 2 * p'.1) (hp : p.1 ≤ p'.1) : WI NC NS w d c' A' J' tvb' capb' p' q ∧ ∀ (b : Nat) (z : Int), inC w b → A' b z = A b z := by
  obtain ⟨⟨hW, hB⟩, ⟨hT0, ht⟩, ⟨hd, hdw⟩, h4, h5, h6⟩ := h
  obtain ⟨g1, g2, ⟨g3, g4⟩, g5, g6, g7⟩ := hG
  have hBt : c.1 (w + 1) 0 = some tvb := hT0.1.2.1
  have p0 := hT0.2.2.1.1
  have okx : ∀ {a t n : Nat}, okc c a t n → okc c' a t n := fun o => ⟨Nat.lt_of_lt_of_le o.1 g1.1, (g3 _ o.1).trans o.2⟩
  have ptx : ∀ {a j x : Nat}, a < c.2.2.1 → a ≠ w + 1 → ptr c a j x → ptr c' a j x := fun ha hb e => (g4 _ _ ha hb).trans e
  have hf : ∀ (b : Nat) (z : Int), b < c.2.2.1 → b ≠ w + 1 → b ≠ tvb → A' b z = A b z := fun b z x y u => g5 b z x y (by rw [hBt]; intro e; cases e; exact u rfl)
  have hW' : isWorld c' w := by
    obtain ⟨⟨a0, a3, a4, a5, a6, a7, a8, a9, a18, a27, a28, a29, a30, a31⟩, ⟨b1, b2, b3, b4, b5, b6, b7, b8, b9, b10, b11, b12, b13⟩, hr⟩ := hW
    have hw1 : w ≠ w + 1 := by omega
    refine ⟨⟨okx a0, okx a3, okx a4, okx a5, okx a6, okx a7, okx a8, okx a9, okx a18, okx a27, okx a28, okx a29, okx a30, okx a31⟩, ⟨ptx a0.1 hw1 b1, ptx a0.1 hw1 b2, ptx a0.1 hw1 b3, ptx a0.1 hw1 b4, ptx a0.1 hw1 b5, ptx a0.1 hw1 b6, ptx a0.1 hw1 b7, ptx a0.1 hw1 b8, ptx a0.1 hw1 b9, ptx a0.1 hw1 b10, ptx a0.1 hw1 b11, ptx a0.1 hw1 b12, ptx a0.1 hw1 b13⟩, fun r p1 p2 => ?_⟩
    obtain ⟨⟨r1, r2⟩, r3, r4⟩ := hr r p1 p2
    exact ⟨⟨ptx a9.1 (by omega) r1, okx r2⟩, ptx a18.1 (by omega) r3, okx r4⟩
  have hw0 := hW.1.1.1
  refine ⟨⟨⟨hW', ptx hw0 (by omega) hB⟩, ⟨hT, ?_⟩, ⟨⟨okx hd.1, ptx hd.1.1 (by omega) hd.2⟩, hdw⟩, by rw [hf d 1 hd.1.1 (by omega) (by omega)]; exact h4, by rcases hc with y | y <;> omega, by omega⟩, fun b z hb => hf b z (by omega) (by omega) (by omega)⟩
  have hB' : c'.1 (w + 1) 0 = some tvb' := hT.1.2.1
  rcases g7 with y | ⟨t, ht2, y⟩
  · rw [hB', hBt] at y
    cases y
    exact ht
  · rw [hB'] at y
    cases y
    omega
theorem WI.B (h : WI NC NS w d c A J tvb capb p q) (k : Nat → Option AR) : gR (CW c A J) w 13 0 k = k (w + 1) := k_gR h.1.1.1.1 h.1.2 k
theorem WI.chr (h : WI NC NS w d c A J tvb capb p q) (ch : Int) (hc : 0 ≤ ch ∧ ch ≤ 127) (hp : p.1 ≤ 2900) {x : Int32} (hx : x = ii ch) : ∃ (c' : CC) (A' : AI) (J' : JI) (tvb' capb' : Nat), (∀ K : Nat → AS → Option AR, cV (CW c A J) (w + 1) 1 (fJ4_append_cf468 (w + 1) x (CW c A J)) (qR K) = K (w + 1) (CW c' A' J')) ∧ WI NC NS w d c' A' J' tvb' capb' (tC ch p) q ∧ ∀ (b : Nat) (z : Int), inC w b → A' b z = A b z := by
  obtain ⟨c', A', J', tvb', capb', e1, e2, e3, e4⟩ := u_appB (J := J) h.2.1.1 ch hc (by omega)
  refine ⟨c', A', J', tvb', capb', fun K => ?_, h.glb e2 e3 (by rw [tC_1]; exact e4) (by rw [tC_1]; omega)⟩
  rw [hx, k_V h.2.1.1.1.1, e1, k_Cl e3.1, q_R]
theorem WI.num (h : WI NC NS w d c A J tvb capb p q) (v : Int) (hv : 0 ≤ v ∧ v < 10000) (hp : p.1 ≤ 2900) : ∃ (c' : CC) (A' : AI) (J' : JI) (tvb' capb' : Nat), (∀ K : Nat → AS → Option AR, cV (CW c A J) (w + 1) 1 (fJ4_append_bf812 (w + 1) (ii v) (CW c A J)) (qR K) = K (w + 1) (CW c' A' J')) ∧ WI NC NS w d c' A' J' tvb' capb' (tN v p) q ∧ ∀ (b : Nat) (z : Int), inC w b → A' b z = A b z := by
  obtain ⟨c', A', J', tvb', capb', e1, e2, e3, e4⟩ := u_numB (J := J) h.2.1.1 v hv (by omega)
  have := nd_b v
  refine ⟨c', A', J', tvb', capb', fun K => ?_, h.glb e2 e3 (by rw [tN_1]; exact e4) (by rw [tN_1]; omega)⟩
  rw [k_V h.2.1.1.1.1, e1, k_Cl e3.1, q_R]
theorem WI.str (h : WI NC NS w d c A J tvb capb p q) (x : Nat) (hx : 1000026 ≤ x ∧ x < 1000045) (hp : p.1 ≤ 2900) : ∃ (c' : CC) (A' : AI) (J' : JI) (tvb' capb' : Nat), (∀ K : Nat → AS → Option AR, cV (CW c A J) (w + 1) 1 (fJ4_append_15ec4 (w + 1) x (CW c A J)) (qR K) = K (w + 1) (CW c' A' J')) ∧ WI NC NS w d c' A' J' tvb' capb' (tS x p) q ∧ ∀ (b : Nat) (z : Int), inC w b → A' b z = A b z := by
  obtain ⟨c', A', J', tvb', capb', e1, e2, e3, e4⟩ := u_appSA (J := J) h.2.1.1 x hx hp
  refine ⟨c', A', J', tvb', capb', fun K => ?_, h.glb e2 e3 e4 (by show p.1 ≤ p.1 + _; omega)⟩
  rw [k_V h.2.1.1.1.1, e1, k_Cl e3.1, q_R]
end WIN
