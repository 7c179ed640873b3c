/-! TEXTS: what is written, and how the class writes it -/
abbrev TP : Type := Int × (Int → Int)
def nd (v : Int) : Int := if v < 10 then 1 else if v < 100 then 2 else if v < 1000 then 3 else 4
def dgt (v j : Int) : Int := if j = 0 then v % 10 else if j = 1 then v / 10 % 10 else if j = 2 then v / 100 % 10 else v / 1000 % 10
def tC (ch : Int) (p : TP) : TP := (p.1 + 1, gu p.2 p.1 ch)
def tN (v : Int) (p : TP) : TP := (p.1 + nd v, fun k => if p.1 ≤ k ∧ k < p.1 + nd v then 48 + dgt v (p.1 + nd v - 1 - k) else p.2 k)
def tB (p : TP) : TP := if 0 < p.1 then tC 32 p else p
def tK (met len : Int → Int) (k : Int) (p : TP) : TP := tN (len k) (tC (if met k = 0 then 119 else 109) p)
def tQ (o : Int) (p : TP) : TP := tN o (tC 113 (tB p))
theorem nd_b (v : Int) : 1 ≤ nd v ∧ nd v ≤ 4 := by unfold nd; split <;> (try split) <;> (try split) <;> omega
theorem nd_2 (v : Int) (h : v < 100) : nd v ≤ 2 := by unfold nd; split <;> (try split) <;> (try split) <;> omega
theorem nd_3 (v : Int) (h : v < 1000) : nd v ≤ 3 := by unfold nd; split <;> (try split) <;> (try split) <;> omega
theorem nd_e1 (v : Int) (h : v < 10) : nd v = 1 := if_pos h
theorem nd_e2 (v : Int) (h : 10 ≤ v ∧ v < 100) : nd v = 2 := by unfold nd; rw [if_neg (by omega), if_pos h.2]
theorem nd_e3 (v : Int) (h : 100 ≤ v ∧ v < 1000) : nd v = 3 := by unfold nd; rw [if_neg (by omega), if_neg (by omega), if_pos h.2]
theorem nd_e4 (v : Int) (h : 1000 ≤ v) : nd v = 4 := by unfold nd; rw [if_neg (by omega), if_neg (by omega), if_neg (by omega)]
theorem dgt_0 (v : Int) : dgt v 0 = v % 10 := rfl
theorem dgt_1 (v : Int) : dgt v 1 = v / 10 % 10 := rfl
theorem dgt_2 (v : Int) : dgt v 2 = v / 100 % 10 := rfl
theorem dgt_3 (v : Int) : dgt v 3 = v / 1000 % 10 := rfl
theorem dgt_b (v j : Int) (h : 0 ≤ v) : 0 ≤ dgt v j ∧ dgt v j ≤ 9 := by unfold dgt; split <;> (try split) <;> (try split) <;> omega
theorem tN_l (v : Int) (p : TP) (k : Int) (h : k < p.1) : (tN v p).2 k = p.2 k := if_neg (by omega)
theorem tN_d (v : Int) (p : TP) (k j : Int) (hk : k = p.1 + nd v - 1 - j) (hj : 0 ≤ j ∧ j < nd v) : (tN v p).2 k = 48 + dgt v j := by
  show (if p.1 ≤ k ∧ k < p.1 + nd v then 48 + dgt v (p.1 + nd v - 1 - k) else p.2 k) = _
  rw [if_pos (by omega), show p.1 + nd v - 1 - k = j by omega]
/-- the cells of the world stay, and what they hold, but for the builder's own -/
abbrev gro (c c' : CC) : Prop := (∀ a ci n, okc c a ci n → okc c' a ci n) ∧ ∀ a ci n j q, okc c a ci n → ci ≠ 1 → ptr c a j q → ptr c' a j q
theorem isRow.grow {c c' : CC} {R : Nat} (g : gro c c') (h : isRow c R) : isRow c' R :=
  ⟨⟨g.1 _ _ _ h.1.1, g.1 _ _ _ h.1.2.1, g.1 _ _ _ h.1.2.2.1, g.1 _ _ _ h.1.2.2.2⟩, g.2 _ _ _ _ _ h.1.1 (by decide) h.2.1, g.2 _ _ _ _ _ h.1.1 (by decide) h.2.2.1, g.2 _ _ _ _ _ h.1.1 (by decide) h.2.2.2⟩
theorem isPlan.grow {c c' : CC} {Q : Nat} (g : gro c c') (h : isPlan c Q) : isPlan c' Q :=
  ⟨⟨g.1 _ _ _ h.1.1, g.1 _ _ _ h.1.2.1, g.1 _ _ _ h.1.2.2.1, g.1 _ _ _ h.1.2.2.2⟩, g.2 _ _ _ _ _ h.1.1 (by decide) h.2.1, g.2 _ _ _ _ _ h.1.1 (by decide) h.2.2.1, g.2 _ _ _ _ _ h.1.1 (by decide) h.2.2.2⟩
theorem isState.grow {c c' : CC} {S : Nat} (g : gro c c') (h : isState c S) : isState c' S :=
  ⟨⟨g.1 _ _ _ h.1.1, g.1 _ _ _ h.1.2.1, g.1 _ _ _ h.1.2.2⟩, ⟨g.2 _ _ _ _ _ h.1.1 (by decide) h.2.1.1, g.2 _ _ _ _ _ h.1.1 (by decide) h.2.1.2⟩, fun r a b => ⟨g.2 _ _ _ _ _ h.1.2.1 (by decide) (h.2.2 r a b).1, (h.2.2 r a b).2.grow g⟩⟩
theorem isSolver.grow {c c' : CC} {V : Nat} (g : gro c c') (h : isSolver c V) : isSolver c' V :=
  ⟨⟨g.1 _ _ _ h.1.1, g.1 _ _ _ h.1.2.1, g.1 _ _ _ h.1.2.2.1, g.1 _ _ _ h.1.2.2.2.1, g.1 _ _ _ h.1.2.2.2.2.1, g.1 _ _ _ h.1.2.2.2.2.2⟩, ⟨g.2 _ _ _ _ _ h.1.1 (by decide) h.2.1.1, g.2 _ _ _ _ _ h.1.1 (by decide) h.2.1.2.1, g.2 _ _ _ _ _ h.1.1 (by decide) h.2.1.2.2.1, g.2 _ _ _ _ _ h.1.1 (by decide) h.2.1.2.2.2.1, g.2 _ _ _ _ _ h.1.1 (by decide) h.2.1.2.2.2.2⟩, fun p a b => ⟨g.2 _ _ _ _ _ h.1.2.1 (by decide) (h.2.2 p a b).1, g.1 _ _ _ (h.2.2 p a b).2⟩⟩
theorem isHist.grow {c c' : CC} {Y : Nat} (g : gro c c') (h : isHist c Y) : isHist c' Y :=
  ⟨⟨g.1 _ _ _ h.1.1, g.1 _ _ _ h.1.2⟩, g.2 _ _ _ _ _ h.1.1 (by decide) h.2.1, fun i a b => ⟨g.2 _ _ _ _ _ h.1.2 (by decide) (h.2.2 i a b).1, (h.2.2 i a b).2.grow g⟩⟩
theorem isReader.grow {c c' : CC} {D : Nat} (g : gro c c') (h : isReader c D) : isReader c' D :=
  ⟨⟨g.1 _ _ _ h.1.1, g.1 _ _ _ h.1.2.1, g.1 _ _ _ h.1.2.2⟩, g.2 _ _ _ _ _ h.1.1 (by decide) h.2.1, g.2 _ _ _ _ _ h.1.1 (by decide) h.2.2⟩
theorem isLock.grow {c c' : CC} {pl sp tv cap tv' cap' : Nat} (g : gro c c') (h : isLock c pl sp tv cap) (e : ptr c' 375 0 tv' ∧ okc c' tv' 103 cap' ∧ (tv' = 376 ∨ 455 ≤ tv')) : isLock c' pl sp tv' cap' := by
  obtain ⟨⟨a, a0, a1, a2, a3, a4, a5, a6, a7, a8, a9⟩, ⟨b1, b2, b3, b4, b5, b6, b7⟩, ⟨d1, d2, d3, d4⟩, ⟨f1, f2, f3⟩, ⟨g1, g2, g3, g4⟩, h1⟩ := h
  exact ⟨⟨g.1 _ _ _ a, g.2 _ _ _ _ _ a (by decide) a0, g.2 _ _ _ _ _ a (by decide) a1, g.2 _ _ _ _ _ a (by decide) a2, g.2 _ _ _ _ _ a (by decide) a3, g.2 _ _ _ _ _ a (by decide) a4, g.2 _ _ _ _ _ a (by decide) a5, g.2 _ _ _ _ _ a (by decide) a6, g.2 _ _ _ _ _ a (by decide) a7, g.2 _ _ _ _ _ a (by decide) a8, g.2 _ _ _ _ _ a (by decide) a9⟩,
    ⟨b1.grow g, b2.grow g, b3.grow g, b4.grow g, b5.grow g, b6.grow g, b7.grow g⟩, ⟨g.1 _ _ _ d1, g.2 _ _ _ _ _ d1 (by decide) d2, g.2 _ _ _ _ _ d1 (by decide) d3, g.1 _ _ _ d4⟩, ⟨f1, f2.grow g, f3.grow g⟩, ⟨g.1 _ _ _ g1, e⟩, h1⟩
theorem vp_narB (v : Int) (h : 0 ≤ v ∧ v ≤ 127) : vp_nar .byte (ii v) = ii v := by
  have key : ∀ k : Fin 128, vp_nar .byte (ii ((k : Nat) : Int)) = ii ((k : Nat) : Int) := by decide +kernel
  have h3 := key ⟨v.toNat, by omega⟩
  dsimp only at h3
  rwa [show ((v.toNat : Nat) : Int) = v by omega] at h3
theorem fits_B (v : Int) (h : 0 ≤ v ∧ v ≤ 127) : fits .byte (.int (ii v)) = true := by
  have key : ∀ k : Fin 128, fits .byte (.int (ii ((k : Nat) : Int))) = true := by decide +kernel
  have h3 := key ⟨v.toNat, by omega⟩
  dsimp only at h3
  rwa [show ((v.toNat : Nat) : Int) = v by omega] at h3
theorem b_i8 (v : Int) (h : 0 ≤ v ∧ v ≤ 127) : (ii v).toInt8.toInt32 = ii v := by
  have key : ∀ k : Fin 128, (ii ((k : Nat) : Int)).toInt8.toInt32 = ii ((k : Nat) : Int) := by decide +kernel
  have h3 := key ⟨v.toNat, by omega⟩
  dsimp only at h3
  rwa [show ((v.toNat : Nat) : Int) = v by omega] at h3
theorem b_ch (v : Int) (h : 0 ≤ v ∧ v ≤ 127) : ((ii v &&& 255).toUInt32 % 65536).toInt32 = ii v ∧ ((ii v).toUInt32 % 65536).toInt32 = ii v := by
  have key : ∀ k : Fin 128, ((ii ((k : Nat) : Int) &&& 255).toUInt32 % 65536).toInt32 = ii ((k : Nat) : Int) ∧ ((ii ((k : Nat) : Int)).toUInt32 % 65536).toInt32 = ii ((k : Nat) : Int) := by decide +kernel
  have h3 := key ⟨v.toNat, by omega⟩
  dsimp only at h3
  rwa [show ((v.toNat : Nat) : Int) = v by omega] at h3
theorem n_div (v : Int) (h : 0 ≤ v ∧ v < 10000) : ii (-v) / ii 100 = ii (-(v / 100)) := by
  apply Int32.toInt_inj.mp
  have hb : ii 100 ≠ -1 := by decide
  rw [Int32.toInt_div_of_ne_right _ _ hb, ii_ti (-v) (by omega), ii_ti 100 (by omega), Int.neg_tdiv, Int.tdiv_eq_ediv_of_nonneg h.1, ii_ti _ (by omega)]
theorem shr0 (x : Int32) : x >>> (ii 0 &&& ii 31) = x := by
  rw [show ii 0 &&& ii 31 = (0 : Int32) by decide]
  exact Int32.shiftRight_zero
theorem shl0 (x : Int32) : x <<< (ii 0 &&& ii 31) = x := by
  rw [show ii 0 &&& ii 31 = (0 : Int32) by decide]
  exact Int32.shiftLeft_zero
theorem kT_o (r : Int) (h : 0 ≤ r ∧ r < 100) (k : Int32 → Option AR) : kT ax_ones (ii r) k = k (ii (48 + r % 10)) := by
  refine (if_pos (ii_ib r 100 (by omega))).trans ?_
  rw [ii_tn r (by omega)]
  unfold ax_ones
  rw [← Int32.ofInt_eq_ofNat]
  show k (ii _) = _
  rw [show ((48 + r.toNat % 10 : Nat) : Int) = 48 + r % 10 by omega]
theorem kT_t (r : Int) (h : 0 ≤ r ∧ r < 100) (k : Int32 → Option AR) : kT ax_tens (ii r) k = k (ii (48 + r / 10)) := by
  refine (if_pos (ii_ib r 100 (by omega))).trans ?_
  rw [ii_tn r (by omega)]
  unfold ax_tens
  rw [← Int32.ofInt_eq_ofNat]
  show k (ii _) = _
  rw [show ((48 + r.toNat / 10 : Nat) : Int) = 48 + r / 10 by omega]
section TXT
variable {c c' c2 : CC} {A A' A2 : AI} {J J' J2 : JI} {pl sp tv cap tv' cap' tv2 cap2 : Nat} {p : TP}
theorem k_Cl (h : c.2.2.1 ≤ c'.2.2.1 ∧ c.2.2.2.1 ≤ c'.2.2.2.1 ∧ c.2.2.2.2 ≤ c'.2.2.2.2) (v : Option Value) (g : Option Value → AS → Option AR) : cS (CW c A J) (some (.inl v, CW c' A' J')) g = g v (CW c' A' J') := by
  show (if ax_le (CW c A J) (CW c' A' J') then g v (CW c' A' J') else none) = _
  exact if_pos ⟨h.2.1, h.2.2, h.1⟩
theorem k_uB {a n : Nat} (h : okc c a 103 n) (z v : Int) (hz : (0 ≤ z ∧ z < n) ∧ n ≤ 2147483648) (hv : 0 ≤ v ∧ v ≤ 127) (k : AS → Option AR) : uN 103 .byte (CW c A J) a (ii z) (ii v) k = k (CW c (up A a z v) J) := by
  refine (if_pos ⟨h.1, by rw [show ax_H (CW c A J) a = c.2.1 a from rfl, h.2], by rw [show ax_H (CW c A J) a = c.2.1 a from rfl, h.2]; exact ii_ib z n hz⟩).trans ?_
  rw [vp_narB v hv, cUp a z v (by omega)]
theorem k_cpB {a0 a n0 n1 : Nat} (h0 : okc c a0 103 n0) (h : okc c a 103 n1) (n : Int) (hn : (0 ≤ n ∧ n ≤ n0) ∧ n ≤ n1 ∧ n < 2147483648) (hb : ∀ i, 0 ≤ i → i < n → 0 ≤ A a0 i ∧ A a0 i ≤ 127) (k : AS → Option AR) : cpI 103 .byte (CW c A J) a0 (ii 0) a (ii 0) (ii n) k = k (CW c (cpA A a0 a n) J) := by
  have e0 : (ii 0).toNatClampNeg = 0 := rfl
  refine (if_pos ⟨⟨h0.1, by rw [show ax_H (CW c A J) a0 = c.2.1 a0 from rfl, h0.2], h.1, by rw [show ax_H (CW c A J) a = c.2.1 a from rfl, h.2]⟩, ⟨by decide, by decide, ?_, ?_, ?_⟩, Or.inr ?_⟩).trans ?_
  · rw [e0, ii_tn n (by omega)]
    congr 1
    unfold ax_cI CW
    congr 1
    funext b i
    unfold va_cpy IW cpA
    by_cases q : b = a
    · rw [if_pos q]
      by_cases q2 : i < n.toNat
      · rw [if_pos (by omega), if_pos (by omega), show 0 + (i - 0) = i by omega]
      · rw [if_neg (by omega), if_neg (by omega), q]
    · rw [if_neg q, if_neg (fun z => q z.1)]
  · rw [show (0 : Int32) = ii 0 from rfl, ii_lt _ _ (by omega)]; omega
  · rw [show ax_H (CW c A J) a0 = c.2.1 a0 from rfl, h0.2, e0, ii_tn n (by omega)]; dsimp only; omega
  · rw [show ax_H (CW c A J) a = c.2.1 a from rfl, h.2, e0, ii_tn n (by omega)]; dsimp only; omega
  · rw [List.all_eq_true]
    intro i hi
    rw [List.mem_range, ii_tn n (by omega)] at hi
    rw [e0, show 0 + i = i by omega]
    exact fits_B (A a0 (i : Int)) (hb i (by omega) (by omega))
theorem sbV (hk : isLock c pl sp tv cap) (x : Option AR) (g : Option Value → AS → Option AR) : cV (CW c A J) 375 1 x g = cS (CW c A J) x g := k_V hk.2.2.2.2.1.1 x g
theorem sbI1 (hk : isLock c pl sp tv cap) (k : Int32 → Option AR) : gI (CW c A J) 375 1 1 k = k (ii (A 375 1)) := k_gI hk.2.2.2.2.1.1 1 k
theorem sbI3 (hk : isLock c pl sp tv cap) (k : Int32 → Option AR) : gI (CW c A J) 375 1 3 k = k (ii (A 375 3)) := k_gI hk.2.2.2.2.1.1 3 k
theorem sbS3 (hk : isLock c pl sp tv cap) (v : Int) (k : AS → Option AR) : sI (CW c A J) 375 1 3 (ii v) k = k (CW c (up A 375 3 v) J) := k_sI hk.2.2.2.2.1.1 3 v k
theorem sbR0 (hk : isLock c pl sp tv cap) (k : Nat → Option AR) : gR (CW c A J) 375 1 0 k = k tv := k_gR hk.2.2.2.2.1.1 hk.2.2.2.2.1.2.1 k
theorem sbL (hk : isLock c pl sp tv cap) (k : Int32 → Option AR) : aL (CW c A J) tv 103 k = k (ii (cap : Int)) := k_aL hk.2.2.2.2.1.2.2.1 k
/-- a builder: the object at B, its row of bytes at tv -/
def isSB (c : CC) (B tv cap : Nat) : Prop := okc c B 1 4 ∧ ptr c B 0 tv ∧ okc c tv 103 cap ∧ tv ≠ B
theorem vbV {B : Nat} (hk : isSB c B tv cap) (x : Option AR) (g : Option Value → AS → Option AR) : cV (CW c A J) B 1 x g = cS (CW c A J) x g := k_V hk.1 x g
theorem vbI1 {B : Nat} (hk : isSB c B tv cap) (k : Int32 → Option AR) : gI (CW c A J) B 1 1 k = k (ii (A B 1)) := k_gI hk.1 1 k
theorem vbI3 {B : Nat} (hk : isSB c B tv cap) (k : Int32 → Option AR) : gI (CW c A J) B 1 3 k = k (ii (A B 3)) := k_gI hk.1 3 k
theorem vbS3 {B : Nat} (hk : isSB c B tv cap) (v : Int) (k : AS → Option AR) : sI (CW c A J) B 1 3 (ii v) k = k (CW c (up A B 3 v) J) := k_sI hk.1 3 v k
theorem vbR0 {B : Nat} (hk : isSB c B tv cap) (k : Nat → Option AR) : gR (CW c A J) B 1 0 k = k tv := k_gR hk.1 hk.2.1 k
theorem vbL {B : Nat} (hk : isSB c B tv cap) (k : Int32 → Option AR) : aL (CW c A J) tv 103 k = k (ii (cap : Int)) := k_aL hk.2.2.1 k
/-- the builder holds this text -/
abbrev TG (c : CC) (A : AI) (B tv cap : Nat) (p : TP) : Prop := isSB c B tv cap ∧ (A B 3 = p.1 ∧ A B 1 = 0) ∧ (0 ≤ p.1 ∧ p.1 ≤ cap ∧ 16 ≤ cap ∧ cap ≤ 7000 ∧ c.2.2.1 ≤ zB + cap) ∧ (∀ k : Int, 0 ≤ k → k < p.1 → A tv k = p.2 k) ∧ ∀ k : Int, 0 ≤ k → k < (cap : Int) → 0 ≤ A tv k ∧ A tv k ≤ 127
/-- .. and nothing else is other -/
abbrev GLb (B : Nat) (c c' : CC) (cap cap' : Nat) (A A' : AI) (J J' : JI) : Prop := (c.2.2.1 ≤ c'.2.2.1 ∧ c.2.2.2.1 ≤ c'.2.2.2.1 ∧ c.2.2.2.2 ≤ c'.2.2.2.2) ∧ (c'.2.2.1 + cap ≤ c.2.2.1 + cap' ∧ c'.2.2.2.1 + cap ≤ c.2.2.2.1 + cap' ∧ c'.2.2.2.2 + 2 * cap ≤ c.2.2.2.2 + 2 * cap') ∧ ((∀ a, a < c.2.2.1 → c'.2.1 a = c.2.1 a) ∧ ∀ a j, a < c.2.2.1 → a ≠ B → c'.1 a j = c.1 a j) ∧ (∀ (b : Nat) (z : Int), b < c.2.2.1 → b ≠ B → c.1 B 0 ≠ some b → A' b z = A b z) ∧ (∀ b j : Nat, b < c.2.2.1 → J' b j = J b j) ∧ (c'.1 B 0 = c.1 B 0 ∨ ∃ t, c.2.2.1 ≤ t ∧ c'.1 B 0 = some t)
theorem GLb.refl (B : Nat) (c : CC) (cap : Nat) (A : AI) (J : JI) : GLb B c c cap cap A A J J := ⟨⟨Nat.le_refl _, Nat.le_refl _, Nat.le_refl _⟩, ⟨Nat.le_refl _, Nat.le_refl _, Nat.le_refl _⟩, ⟨fun _ _ => rfl, fun _ _ _ _ => rfl⟩, fun _ _ _ _ _ => rfl, fun _ _ _ => rfl, Or.inl rfl⟩
theorem GLb.trans {B : Nat} (h : GLb B c c' cap cap' A A' J J') (k : GLb B c' c2 cap' cap2 A' A2 J' J2) : GLb B c c2 cap cap2 A A2 J J2 := by
  obtain ⟨h1, h2, ⟨h3, h4⟩, h5, h6, h7⟩ := h
  obtain ⟨k1, k2, ⟨k3, k4⟩, k5, k6, k7⟩ := k
  have hz := h1.1
  refine ⟨by omega, by omega, ⟨fun a q => (k3 a (by omega)).trans (h3 a q), fun a j q w => (k4 a j (by omega) w).trans (h4 a j q w)⟩, fun b z q w e => (k5 b z (by omega) w ?_).trans (h5 b z q w e), fun b j q => (k6 b j (by omega)).trans (h6 b j q), ?_⟩
  · rcases h7 with h7 | ⟨t, ht, h7⟩
    · rw [h7]; exact e
    · rw [h7]; intro x; cases x; omega
  · rcases k7 with k7 | ⟨t, ht, k7⟩
    · rcases h7 with h7 | ⟨t, ht, h7⟩
      · exact Or.inl (k7.trans h7)
      · exact Or.inr ⟨t, ht, k7.trans h7⟩
    · exact Or.inr ⟨t, by omega, k7⟩
theorem GLb.gro {B : Nat} (hk : isSB c B tv cap) (h : GLb B c c' cap cap' A A' J J') : gro c c' := by
  obtain ⟨h1, h2, ⟨h3, h4⟩, -⟩ := h
  refine ⟨fun a ci n o => ⟨Nat.lt_of_lt_of_le o.1 h1.1, (h3 a o.1).trans o.2⟩, fun a ci n j q o hc hp => ?_⟩
  have hne : a ≠ B := fun e => by
    have h2 := o.2
    rw [e, hk.1.2] at h2
    exact hc (congrArg Prod.fst h2).symm
  exact (h4 a j o.1 hne).trans hp
def grC (c : CC) (B N : Nat) : CC := (ax_up2 (fun a b => if a = c.2.2.1 then none else c.1 a b) B 0 (some c.2.2.1), fun a => if a = c.2.2.1 then (103, N) else c.2.1 a, c.2.2.1 + 1, c.2.2.2.1 + 1, c.2.2.2.2 + N)
def grA (c : CC) (A : AI) : AI := fun a y => if a = c.2.2.1 then 0 else A a y
def grJ (c : CC) (J : JI) : JI := fun a y => if a = c.2.2.1 then 0 else J a y
theorem u_ens {B : Nat} (h : TG c A B tv cap p) (m : Int) (hm : 0 ≤ m ∧ m ≤ 2960) : ∃ (c' : CC) (A' : AI) (J' : JI) (tv' cap' : Nat), fJ5_ensureCapacityInternal_d00df B (ii m) (CW c A J) = some (Sum.inl none, CW c' A' J') ∧ TG c' A' B tv' cap' p ∧ m ≤ cap' ∧ GLb B c c' cap cap' A A' J J' := by
  obtain ⟨hk, ⟨a3, a1⟩, ⟨l0, l1, l2, l3, l4⟩, ht, hb⟩ := h
  by_cases y : m ≤ cap
  · refine ⟨c, A, J, tv, cap, ?_, ⟨hk, ⟨a3, a1⟩, ⟨l0, l1, l2, l3, l4⟩, ht, hb⟩, y, GLb.refl B _ _ _ _⟩
    simp (disch := first | assumption | omega) only [fJ5_ensureCapacityInternal_d00df, vbR0 hk, vbL hk, vbI1 hk, a1, shr0, ↓reduceIte, tr_lt, fa_lt, tr_le, fa_le, tr_eq, fa_eq, and_true, true_and, and_false, false_and, il0, il1, il2, il3, il4, il5, il6, il7, il8, il9, il10, il11, il12, il15, il16, il20, il24, il31, il32, il44, il45, il48, il50, il57, il58, il59, il63, il91, il93, il97, il99, il100, il109, il113, il119, il120, il122, il200, il255, il480, il500, il501, il512, il999, il4112, il41120, il1000000, il1000003, ii_add, ii_sub, ii_mul, ii_neg, ii_le, ii_lt, ii_eq, ii_div, q_I, q_V, q_R, lt_q, rZ_q, md_M, md_16, md_4, md_8, md_10, if_true, if_false, if_pos, if_neg]
  · obtain ⟨N, hN⟩ : ∃ N : Nat, (N : Int) = if m - (cap : Int) < (cap : Int) + 2 then (cap : Int) + ((cap : Int) + 2) else m := ⟨(if m - (cap : Int) < (cap : Int) + 2 then (cap : Int) + ((cap : Int) + 2) else m).toNat, by split <;> omega⟩
    have hNb : (2 * cap + 2 ≤ N ∧ N ≤ 6000) ∧ m ≤ N := by split at hN <;> omega
    have ho := hk.2.2.1
    have hz : B < c.2.2.1 := hk.1.1
    have hzB := zB_e
    have htv := ho.1
    have hnl : ∀ W : AS, fJ8_newLength_cabcc (ii (cap : Int)) (ii (m - (cap : Int))) (ii ((cap : Int) + 2)) W = some (Sum.inl (some (Value.int (ii (N)))), W) := by
      intro W
      by_cases w : m - (cap : Int) < (cap : Int) + 2
      · rw [if_pos w] at hN
        rw [hN]
        simp (disch := first | assumption | omega) only [fJ8_newLength_cabcc, show (2147483639 : Int32) = ii 2147483639 from rfl, ↓reduceIte, tr_lt, fa_lt, tr_le, fa_le, tr_eq, fa_eq, and_true, true_and, and_false, false_and, il0, il1, il2, il3, il4, il5, il6, il7, il8, il9, il10, il11, il12, il15, il16, il20, il24, il31, il32, il44, il45, il48, il50, il57, il58, il59, il63, il91, il93, il97, il99, il100, il109, il113, il119, il120, il122, il200, il255, il480, il500, il501, il512, il999, il4112, il41120, il1000000, il1000003, ii_add, ii_sub, ii_mul, ii_neg, ii_le, ii_lt, ii_eq, ii_div, q_I, q_V, q_R, lt_q, rZ_q, md_M, md_16, md_4, md_8, md_10, if_true, if_false, if_pos, if_neg]
      · rw [if_neg w] at hN
        have e : (cap : Int) + (m - cap) = N := by omega
        simp (disch := first | assumption | omega) only [fJ8_newLength_cabcc, show (2147483639 : Int32) = ii 2147483639 from rfl, ↓reduceIte, tr_lt, fa_lt, tr_le, fa_le, tr_eq, fa_eq, and_true, true_and, and_false, false_and, il0, il1, il2, il3, il4, il5, il6, il7, il8, il9, il10, il11, il12, il15, il16, il20, il24, il31, il32, il44, il45, il48, il50, il57, il58, il59, il63, il91, il93, il97, il99, il100, il109, il113, il119, il120, il122, il200, il255, il480, il500, il501, il512, il999, il4112, il41120, il1000000, il1000003, ii_add, ii_sub, ii_mul, ii_neg, ii_le, ii_lt, ii_eq, ii_div, q_I, q_V, q_R, lt_q, rZ_q, md_M, md_16, md_4, md_8, md_10, if_true, if_false, if_pos, if_neg, e]
    have hnc : fJ5_newCapacity_0f7a4 B (ii m) (CW c A J) = some (Sum.inl (some (Value.int (ii (N)))), CW c A J) := by
      simp (disch := first | assumption | omega) only [fJ5_newCapacity_0f7a4, vbR0 hk, vbL hk, vbI1 hk, a1, shr0, shl0, ↓reduceIte, tr_lt, fa_lt, tr_le, fa_le, tr_eq, fa_eq, and_true, true_and, and_false, false_and, il0, il1, il2, il3, il4, il5, il6, il7, il8, il9, il10, il11, il12, il15, il16, il20, il24, il31, il32, il44, il45, il48, il50, il57, il58, il59, il63, il91, il93, il97, il99, il100, il109, il113, il119, il120, il122, il200, il255, il480, il500, il501, il512, il999, il4112, il41120, il1000000, il1000003, ii_add, ii_sub, ii_mul, ii_neg, ii_le, ii_lt, ii_eq, ii_div, q_I, q_V, q_R, lt_q, rZ_q, md_M, md_16, md_4, md_8, md_10, if_true, if_false, if_pos, if_neg, show (2147483647 : Int32) = ii 2147483647 from rfl]
      rw [hnl, k_C, q_I, if_neg (by rw [ii_eq _ _ (by omega)]; omega), vbI1 hk, a1, shr0]
    have grP : (grC c B N).1 B 0 = some c.2.2.1 := by
      unfold grC
      dsimp only
      exact ax_up2_s _ _ _ _
    have grQ : ∀ a j, a < c.2.2.1 → a ≠ B → (grC c B N).1 a j = c.1 a j := fun a j q w => by
      unfold grC
      dsimp only
      rw [ax_up2_a _ _ w]
      exact if_neg (by omega)
    have hk' : isSB (grC c B N) B c.2.2.1 N := ⟨⟨Nat.lt_succ_of_lt hk.1.1, (if_neg (Nat.ne_of_lt hk.1.1)).trans hk.1.2⟩, grP, ⟨Nat.lt_succ_self _, if_pos rfl⟩, Nat.ne_of_gt hk.1.1⟩
    have hnA : ∀ k : Nat → AS → Option AR, nA (CW c A J) 103 (ii N) k = k c.2.2.1 (CW (fun a b => if a = c.2.2.1 then none else c.1 a b, (grC c B N).2) (grA c A) (grJ c J)) := by
      intro k
      refine (if_pos ⟨by show c.2.2.1 < 1000000; omega, by rw [il0, ii_lt _ _ (by omega)]; omega, by rw [ii_tn _ (by omega)]; omega⟩).trans ?_
      rw [ii_tn _ (by omega)]
      show k c.2.2.1 (ax_new (CW c A J) 103 (N : Int).toNat) = _
      rw [show (N : Int).toNat = N by omega]
      congr 1
      unfold ax_new CW grC
      dsimp only
      congr 1
      · funext a b
        show (if a = c.2.2.1 then (0 : Int32) else ii (A a (b : Int))) = ii (if a = c.2.2.1 then 0 else A a (b : Int))
        by_cases q : a = c.2.2.1
        · rw [if_pos q, if_pos q]; rfl
        · rw [if_neg q, if_neg q]
    have o1 : okc (fun a b => if a = c.2.2.1 then none else c.1 a b, (grC c B N).2) tv 103 cap := ⟨Nat.lt_succ_of_lt htv, (if_neg (by omega)).trans ho.2⟩
    have o2 : okc (fun a b => if a = c.2.2.1 then none else c.1 a b, (grC c B N).2) c.2.2.1 103 N := ⟨Nat.lt_succ_self _, if_pos rfl⟩
    have gA : ∀ i, grA c A tv i = A tv i := fun i => if_neg (by omega)
    have hcp : fJ7_copyOf_9075b tv (ii N) (CW c A J) = some (.inl (some (.ref c.2.2.1)), CW (fun a b => if a = c.2.2.1 then none else c.1 a b, (grC c B N).2) (cpA (grA c A) tv c.2.2.1 cap) (grJ c J)) := by
      rw [fJ7_copyOf_9075b, vbL hk, if_neg (by rw [ii_eq _ _ (by omega)]; omega), hnA, k_aL o1, lt_q, if_neg (by rw [ii_lt _ _ (by omega)]; omega), il0, k_cpB o1 o2 cap (by omega) (fun i a b => by rw [gA]; exact hb i a b)]
    have hsR : ∀ k : AS → Option AR, sR (CW (fun a b => if a = c.2.2.1 then none else c.1 a b, (grC c B N).2) (cpA (grA c A) tv c.2.2.1 cap) (grJ c J)) B 1 0 c.2.2.1 k = k (CW (grC c B N) (cpA (grA c A) tv c.2.2.1 cap) (grJ c J)) := by
      intro k
      refine (if_pos ⟨by show B < c.2.2.1 + 1; omega, ?_⟩).trans rfl
      show (if B = c.2.2.1 then (103, N) else c.2.1 B).1 = 1
      rw [if_neg (by omega), hk.1.2]
    have cA : ∀ (b : Nat) (z : Int), b < c.2.2.1 → cpA (grA c A) tv c.2.2.1 cap b z = A b z := fun b z q => by
      rw [cpA_n _ _ _ _ _ _ (by omega)]
      exact if_neg (by omega)
    refine ⟨grC c B N, cpA (grA c A) tv c.2.2.1 cap, grJ c J, c.2.2.1, N, ?_, ⟨hk', ⟨by rw [cA _ _ (by omega)]; exact a3, by rw [cA _ _ (by omega)]; exact a1⟩, ⟨l0, by omega, by omega, by omega, by show c.2.2.1 + 1 ≤ zB + N; omega⟩, fun k a b => ?_, fun k a b => ?_⟩, hNb.2, ⟨⟨Nat.le_succ _, Nat.le_succ _, Nat.le_add_right _ _⟩, ⟨by show c.2.2.1 + 1 + cap ≤ c.2.2.1 + N; omega, by show c.2.2.2.1 + 1 + cap ≤ c.2.2.2.1 + N; omega, by show c.2.2.2.2 + N + 2 * cap ≤ c.2.2.2.2 + 2 * N; omega⟩, ⟨fun a q => if_neg (by omega), grQ⟩, fun b z q _ _ => cA b z q, fun b j q => if_neg (by omega), Or.inr ⟨c.2.2.1, Nat.le_refl _, grP⟩⟩⟩
    · rw [fJ5_ensureCapacityInternal_d00df, vbR0 hk, vbL hk, vbI1 hk, a1, il31, shr0, lt_q, ii_sub, il0, if_neg (by rw [ii_le _ _ (by omega)]; omega), vbR0 hk, vbV hk, hnc, k_C, q_I, vbI1 hk, a1, shl0, hcp, k_Cl (c' := (fun a b => if a = c.2.2.1 then none else c.1 a b, (grC c B N).2)) ⟨Nat.le_succ _, Nat.le_succ _, Nat.le_add_right _ _⟩, q_R, hsR]
    · rw [cpA_s _ _ _ _ _ (by omega), gA]
      exact ht k a b
    · by_cases q : k < cap
      · rw [cpA_s _ _ _ _ _ ⟨a, q⟩, gA]
        exact hb k a q
      · rw [cpA_n _ _ _ _ _ _ (by omega)]
        show 0 ≤ (if c.2.2.1 = c.2.2.1 then (0 : Int) else _) ∧ (if c.2.2.1 = c.2.2.1 then (0 : Int) else _) ≤ 127
        rw [if_pos rfl]
        omega
/-! the class's builder -/
abbrev TS (c : CC) (A : AI) (pl sp tv cap : Nat) (p : TP) : Prop := isLock c pl sp tv cap ∧ (A 375 3 = p.1 ∧ A 375 1 = 0) ∧ (0 ≤ p.1 ∧ p.1 ≤ cap ∧ 16 ≤ cap ∧ cap ≤ 7000 ∧ c.2.2.1 ≤ zB + cap) ∧ (∀ k : Int, 0 ≤ k → k < p.1 → A tv k = p.2 k) ∧ ∀ k : Int, 0 ≤ k → k < (cap : Int) → 0 ≤ A tv k ∧ A tv k ≤ 127
abbrev TL (c c' : CC) (cap cap' : Nat) (A A' : AI) (J J' : JI) : Prop := (c.2.2.1 ≤ c'.2.2.1 ∧ c.2.2.2.1 ≤ c'.2.2.2.1 ∧ c.2.2.2.2 ≤ c'.2.2.2.2) ∧ (c'.2.2.1 + cap ≤ c.2.2.1 + cap' ∧ c'.2.2.2.1 + cap ≤ c.2.2.2.1 + cap' ∧ c'.2.2.2.2 + 2 * cap ≤ c.2.2.2.2 + 2 * cap') ∧ (∀ (b : Nat) (z : Int), (b < 375 ∨ 377 ≤ b ∧ b < 455) → A' b z = A b z) ∧ (∀ (b j : Nat), b < 455 → J' b j = J b j) ∧ GLb 375 c c' cap cap' A A' J J'
theorem TL.refl (c : CC) (cap : Nat) (A : AI) (J : JI) : TL c c cap cap A A J J := ⟨⟨Nat.le_refl _, Nat.le_refl _, Nat.le_refl _⟩, ⟨Nat.le_refl _, Nat.le_refl _, Nat.le_refl _⟩, fun _ _ _ => rfl, fun _ _ _ => rfl, GLb.refl _ _ _ _ _⟩
theorem TL.trans (h : TL c c' cap cap' A A' J J') (k : TL c' c2 cap' cap2 A' A2 J' J2) : TL c c2 cap cap2 A A2 J J2 := by
  obtain ⟨h1, h2, h3, h4, h5⟩ := h
  obtain ⟨k1, k2, k3, k4, k5⟩ := k
  exact ⟨by omega, by omega, fun b z q => (k3 b z q).trans (h3 b z q), fun b j q => (k4 b j q).trans (h4 b j q), h5.trans k5⟩
theorem isLock.sb (h : isLock c pl sp tv cap) : isSB c 375 tv cap := ⟨h.2.2.2.2.1.1, h.2.2.2.2.1.2.1, h.2.2.2.2.1.2.2.1, by have := h.2.2.2.2.1.2.2.2; omega⟩
theorem isLock.zl (h : isLock c pl sp tv cap) : 454 < c.2.2.1 := by
  have h1 := (h.2.1.2.2.2.2.2.2.row 7 (by omega)).1.2.2.2.1
  unfold rc at h1
  exact Nat.lt_of_le_of_lt (by decide) h1
theorem TS.of (h : TS c A pl sp tv cap p) {q : TP} (hT : TG c' A' 375 tv' cap' q) (hL : GLb 375 c c' cap cap' A A' J J') : TS c' A' pl sp tv' cap' q ∧ TL c c' cap cap' A A' J J' := by
  have hk := h.1
  have hz := hk.zl
  have hsb := hk.sb
  have htv := hk.2.2.2.2.1.2.2.2
  have e0 : c.1 375 0 = some tv := hsb.2.1
  have hk' : isLock c' pl sp tv' cap' := hk.grow (hL.gro hsb) ⟨hT.1.2.1, hT.1.2.2.1, by
    have e1 : c'.1 375 0 = some tv' := hT.1.2.1
    rcases hL.2.2.2.2.2 with x | ⟨t, ht, x⟩
    · rw [e1, e0] at x
      cases x
      exact htv
    · rw [e1] at x
      cases x
      exact Or.inr (by omega)⟩
  exact ⟨⟨hk', hT.2⟩, hL.1, hL.2.1, fun b z w => hL.2.2.2.1 b z (by omega) (by omega) (by rw [e0]; intro x; cases x; omega), fun b j w => hL.2.2.2.2.1 b j (by omega), hL⟩
theorem t_ens (h : TS c A pl sp tv cap p) (m : Int) (hm : 0 ≤ m ∧ m ≤ 2960) : ∃ (c' : CC) (A' : AI) (J' : JI) (tv' cap' : Nat), fJ5_ensureCapacityInternal_d00df 375 (ii m) (CW c A J) = some (Sum.inl none, CW c' A' J') ∧ TS c' A' pl sp tv' cap' p ∧ m ≤ cap' ∧ TL c c' cap cap' A A' J J' := by
  obtain ⟨c', A', J', tv', cap', e, hT, hm', hL⟩ := u_ens (J := J) (show TG c A 375 tv cap p from ⟨h.1.sb, h.2⟩) m hm
  obtain ⟨h1, h2⟩ := h.of hT hL
  exact ⟨c', A', J', tv', cap', e, h1, hm', h2⟩
end TXT
