/-! THE CLASS'S WORLD: its ints are told by integers, its longs as they are; what its cells are stands in c. -/
abbrev CC : Type := (Nat → Nat → Option Nat) × (Nat → Nat × Nat) × Nat × Nat × Nat
abbrev JI : Type := Nat → Nat → Int64
def CW (c : CC) (A : AI) (J : JI) : AS := (IW A, J, c)
def okc (c : CC) (a ci n : Nat) : Prop := a < c.2.2.1 ∧ c.2.1 a = (ci, n)
def ptr (c : CC) (a j q : Nat) : Prop := c.1 a j = some q
def isRow (c : CC) (R : Nat) : Prop := (okc c R 7 10 ∧ okc c (R + 1) 100 6 ∧ okc c (R + 2) 102 32 ∧ okc c (R + 3) 100 10) ∧ ptr c R 0 (R + 1) ∧ ptr c R 3 (R + 2) ∧ ptr c R 6 (R + 3)
def isPlan (c : CC) (Q : Nat) : Prop := (okc c Q 5 11 ∧ okc c (Q + 1) 101 10 ∧ okc c (Q + 2) 100 10 ∧ okc c (Q + 3) 100 10) ∧ ptr c Q 8 (Q + 1) ∧ ptr c Q 9 (Q + 2) ∧ ptr c Q 10 (Q + 3)
def rc (S : Nat) (r : Int) : Nat := S + 3 + 4 * r.toNat
def isState (c : CC) (S : Nat) : Prop := (okc c S 9 8 ∧ okc c (S + 1) 111 8 ∧ okc c (S + 2) 100 10) ∧ (ptr c S 0 (S + 1) ∧ ptr c S 1 (S + 2)) ∧ ∀ r : Int, 0 ≤ r → r < 8 → ptr c (S + 1) r.toNat (rc S r) ∧ isRow c (rc S r)
def fr (V : Nat) (p : Int) : Nat := V + 2 + p.toNat
def isSolver (c : CC) (V : Nat) : Prop := (okc c V 8 8 ∧ okc c (V + 1) 110 11 ∧ okc c (V + 13) 100 501 ∧ okc c (V + 14) 100 501 ∧ okc c (V + 15) 100 10 ∧ okc c (V + 16) 100 10) ∧ (ptr c V 0 (V + 1) ∧ ptr c V 1 (V + 13) ∧ ptr c V 2 (V + 14) ∧ ptr c V 3 (V + 15) ∧ ptr c V 4 (V + 16)) ∧ ∀ p : Int, 0 ≤ p → p < 11 → ptr c (V + 1) p.toNat (fr V p) ∧ okc c (fr V p) 100 501
def hs (Y : Nat) (i : Int) : Nat := Y + 2 + 35 * i.toNat
def isHist (c : CC) (Y : Nat) : Prop := (okc c Y 4 3 ∧ okc c (Y + 1) 112 8) ∧ ptr c Y 0 (Y + 1) ∧ ∀ i : Int, 0 ≤ i → i < 8 → ptr c (Y + 1) i.toNat (hs Y i) ∧ isState c (hs Y i)
def isReader (c : CC) (D : Nat) : Prop := (okc c D 6 9 ∧ okc c (D + 1) 100 500 ∧ okc c (D + 2) 101 8) ∧ ptr c D 0 (D + 1) ∧ ptr c D 1 (D + 2)
def upJ (J : JI) (a j : Nat) (v : Int64) : JI := ax_up2 J a j v
def cpA (A : AI) (a0 a : Nat) (n : Int) : AI := fun b y => if b = a ∧ 0 ≤ y ∧ y < n then A a0 y else A b y
def cpJJ (J : JI) (a0 a n : Nat) : JI := fun b y => if b = a ∧ y < n then J a0 y else J b y
section CWR
variable {c : CC} {A : AI} {J : JI}
theorem cUp (a : Nat) (z v : Int) (h : 0 ≤ z ∧ z < 2147483648) : ax_setI (CW c A J) a (ii z).toNatClampNeg (ii v) = CW c (up A a z v) J := by
  unfold ax_setI CW
  rw [ii_tn z h, show (IW A, J, c).1 = IW A from rfl, IW_up, show ((z.toNat : Nat) : Int) = z by omega]
theorem cAt (a : Nat) (z : Int) (h : 0 ≤ z ∧ z < 2147483648) : ax_I (CW c A J) a (ii z).toNatClampNeg = ii (A a z) := by
  rw [ii_tn z h]
  show ii (A a ((z.toNat : Nat) : Int)) = _
  rw [show ((z.toNat : Nat) : Int) = z by omega]
theorem k_gI {a ci n : Nat} (h : okc c a ci n) (j : Nat) (k : Int32 → Option AR) : gI (CW c A J) a ci j k = k (ii (A a (j : Int))) := if_pos ⟨h.1, by rw [show ax_H (CW c A J) a = c.2.1 a from rfl, h.2]⟩
theorem k_sI {a ci n : Nat} (h : okc c a ci n) (j : Nat) (v : Int) (k : AS → Option AR) : sI (CW c A J) a ci j (ii v) k = k (CW c (up A a (j : Int) v) J) := by
  refine (if_pos ⟨h.1, by rw [show ax_H (CW c A J) a = c.2.1 a from rfl, h.2]⟩).trans ?_
  unfold ax_setI CW
  rw [show (IW A, J, c).1 = IW A from rfl, IW_up]
theorem k_gR {a ci n j q : Nat} (h : okc c a ci n) (hp : ptr c a j q) (k : Nat → Option AR) : gR (CW c A J) a ci j k = k q := by
  refine (if_pos ⟨h.1, by rw [show ax_H (CW c A J) a = c.2.1 a from rfl, h.2]⟩).trans ?_
  rw [show ax_P (CW c A J) a j = some q from hp]
theorem k_aI {a t n : Nat} (h : okc c a t n) (z : Int) (hz : (0 ≤ z ∧ z < n) ∧ n ≤ 2147483648) (k : Int32 → Option AR) : aI (CW c A J) a t (ii z) k = k (ii (A a z)) := by
  refine (if_pos ⟨h.1, by rw [show ax_H (CW c A J) a = c.2.1 a from rfl, h.2], by rw [show ax_H (CW c A J) a = c.2.1 a from rfl, h.2]; exact ii_ib z n hz⟩).trans ?_
  rw [cAt a z (by omega)]
theorem k_uI {a n : Nat} (h : okc c a 100 n) (z v : Int) (hz : (0 ≤ z ∧ z < n) ∧ n ≤ 2147483648) (k : AS → Option AR) : uI (CW c A J) a (ii z) (ii v) k = k (CW c (up A a z v) J) := by
  refine (if_pos ⟨h.1, by rw [show ax_H (CW c A J) a = c.2.1 a from rfl, h.2], by rw [show ax_H (CW c A J) a = c.2.1 a from rfl, h.2]; exact ii_ib z n hz⟩).trans ?_
  rw [cUp a z v (by omega)]
theorem k_uZ {a n : Nat} (h : okc c a 101 n) (z v : Int) (hz : (0 ≤ z ∧ z < n) ∧ n ≤ 2147483648) (hv : 0 ≤ v ∧ v ≤ 1) (k : AS → Option AR) : uN 101 .boolean (CW c A J) a (ii z) (ii v) k = k (CW c (up A a z v) J) := by
  refine (if_pos ⟨h.1, by rw [show ax_H (CW c A J) a = c.2.1 a from rfl, h.2], by rw [show ax_H (CW c A J) a = c.2.1 a from rfl, h.2]; exact ii_ib z n hz⟩).trans ?_
  rw [vp_narZ v hv, cUp a z v (by omega)]
theorem k_aR {a t n : Nat} (q : Nat) (h : okc c a t n) (z : Int) (hz : (0 ≤ z ∧ z < n) ∧ n ≤ 2147483648) (hp : ptr c a z.toNat q) (k : Nat → Option AR) : aR (CW c A J) a t (ii z) k = k q := by
  refine (if_pos ⟨h.1, by rw [show ax_H (CW c A J) a = c.2.1 a from rfl, h.2], by rw [show ax_H (CW c A J) a = c.2.1 a from rfl, h.2]; exact ii_ib z n hz⟩).trans ?_
  rw [ii_tn z (by omega), show ax_P (CW c A J) a z.toNat = some q from hp]
theorem k_aJ {a n : Nat} (h : okc c a 102 n) (z : Int) (hz : (0 ≤ z ∧ z < n) ∧ n ≤ 2147483648) (k : Int64 → Option AR) : aJ (CW c A J) a (ii z) k = k (J a z.toNat) := by
  refine (if_pos ⟨h.1, by rw [show ax_H (CW c A J) a = c.2.1 a from rfl, h.2], by rw [show ax_H (CW c A J) a = c.2.1 a from rfl, h.2]; exact ii_ib z n hz⟩).trans ?_
  rw [ii_tn z (by omega)]
  rfl
theorem k_uJ {a n : Nat} (h : okc c a 102 n) (z : Int) (v : Int64) (hz : (0 ≤ z ∧ z < n) ∧ n ≤ 2147483648) (k : AS → Option AR) : uJ (CW c A J) a (ii z) v k = k (CW c A (upJ J a z.toNat v)) := by
  refine (if_pos ⟨h.1, by rw [show ax_H (CW c A J) a = c.2.1 a from rfl, h.2], by rw [show ax_H (CW c A J) a = c.2.1 a from rfl, h.2]; exact ii_ib z n hz⟩).trans ?_
  rw [ii_tn z (by omega)]
  rfl
theorem k_aL {a t n : Nat} (h : okc c a t n) (k : Int32 → Option AR) : aL (CW c A J) a t k = k (ii (n : Int)) := by
  refine (if_pos ⟨h.1, by rw [show ax_H (CW c A J) a = c.2.1 a from rfl, h.2]⟩).trans ?_
  rw [show ax_H (CW c A J) a = c.2.1 a from rfl, h.2]
  exact congrArg k (Int32.ofInt_eq_ofNat).symm
theorem k_V {a ci n : Nat} (h : okc c a ci n) (x : Option AR) (g : Option Value → AS → Option AR) : cV (CW c A J) a ci x g = cS (CW c A J) x g := if_pos ⟨h.1, by rw [show ax_H (CW c A J) a = c.2.1 a from rfl, h.2]⟩
theorem k_C (A1 : AI) (J1 : JI) (v : Option Value) (g : Option Value → AS → Option AR) : cS (CW c A J) (some (.inl v, CW c A1 J1)) g = g v (CW c A1 J1) := by
  show (if ax_le (CW c A J) (CW c A1 J1) then g v (CW c A1 J1) else none) = _
  exact if_pos ⟨Nat.le_refl _, Nat.le_refl _, Nat.le_refl _⟩
theorem k_cp {a0 a n0 n1 : Nat} (h0 : okc c a0 100 n0) (h : okc c a 100 n1) (n : Int) (hn : (0 ≤ n ∧ n ≤ n0) ∧ n ≤ n1 ∧ n < 2147483648) (k : AS → Option AR) : cpI 100 .int (CW c A J) a0 (ii 0) a (ii 0) (ii n) k = k (CW c (cpA A a0 a n) J) := by
  have e0 : (ii 0).toNatClampNeg = 0 := rfl
  refine (if_pos ⟨⟨h0.1, by rw [show ax_H (CW c A J) a0 = c.2.1 a0 from rfl, h0.2], h.1, by rw [show ax_H (CW c A J) a = c.2.1 a from rfl, h.2]⟩, ⟨by decide, by decide, ?_, ?_, ?_⟩, Or.inl rfl⟩).trans ?_
  · rw [e0, ii_tn n (by omega)]
    congr 1
    unfold ax_cI CW
    congr 1
    funext b i
    unfold va_cpy IW cpA
    by_cases q : b = a
    · rw [if_pos q]
      by_cases q2 : i < n.toNat
      · rw [if_pos (by omega), if_pos (by omega), show 0 + (i - 0) = i by omega]
      · rw [if_neg (by omega), if_neg (by omega), q]
    · rw [if_neg q, if_neg (fun z => q z.1)]
  · rw [show (0 : Int32) = ii 0 from rfl, ii_lt _ _ (by omega)]; omega
  · rw [show ax_H (CW c A J) a0 = c.2.1 a0 from rfl, h0.2, e0, ii_tn n (by omega)]; dsimp only; omega
  · rw [show ax_H (CW c A J) a = c.2.1 a from rfl, h.2, e0, ii_tn n (by omega)]; dsimp only; omega
theorem k_cpJ {a0 a n0 n1 : Nat} (h0 : okc c a0 102 n0) (h : okc c a 102 n1) (n : Int) (hn : (0 ≤ n ∧ n ≤ n0) ∧ n ≤ n1 ∧ n < 2147483648) (k : AS → Option AR) : cpJ (CW c A J) a0 (ii 0) a (ii 0) (ii n) k = k (CW c A (cpJJ J a0 a n.toNat)) := by
  have e0 : (ii 0).toNatClampNeg = 0 := rfl
  refine (if_pos ⟨⟨h0.1, by rw [show ax_H (CW c A J) a0 = c.2.1 a0 from rfl, h0.2], h.1, by rw [show ax_H (CW c A J) a = c.2.1 a from rfl, h.2]⟩, ⟨by decide, by decide, ?_, ?_, ?_⟩⟩).trans ?_
  · rw [e0, ii_tn n (by omega)]
    congr 1
    unfold ax_cJ CW
    congr 2
    funext b i
    unfold va_cpy cpJJ
    by_cases q : b = a
    · rw [if_pos q]
      by_cases q2 : i < n.toNat
      · rw [if_pos (by omega), if_pos (by omega), show 0 + (i - 0) = i by omega]
      · rw [if_neg (by omega), if_neg (by omega), q]
    · rw [if_neg q, if_neg (fun z => q z.1)]
  · rw [show (0 : Int32) = ii 0 from rfl, ii_lt _ _ (by omega)]; omega
  · rw [show ax_H (CW c A J) a0 = c.2.1 a0 from rfl, h0.2, e0, ii_tn n (by omega)]; dsimp only; omega
  · rw [show ax_H (CW c A J) a = c.2.1 a from rfl, h.2, e0, ii_tn n (by omega)]; dsimp only; omega
theorem i_and (x y : Int) : ii x &&& ii y = ii ((ii x &&& ii y).toInt) := (ii_of _).symm
theorem rwI1 {X : Nat} (h : isRow c X) (k : Int32 → Option AR) : gI (CW c A J) X 7 1 k = k (ii (A X 1)) := k_gI h.1.1 1 k
theorem rwS1 {X : Nat} (h : isRow c X) (v : Int) (k : AS → Option AR) : sI (CW c A J) X 7 1 (ii v) k = k (CW c (up A X 1 v) J) := k_sI h.1.1 1 v k
theorem rwI2 {X : Nat} (h : isRow c X) (k : Int32 → Option AR) : gI (CW c A J) X 7 2 k = k (ii (A X 2)) := k_gI h.1.1 2 k
theorem rwS2 {X : Nat} (h : isRow c X) (v : Int) (k : AS → Option AR) : sI (CW c A J) X 7 2 (ii v) k = k (CW c (up A X 2 v) J) := k_sI h.1.1 2 v k
theorem rwI4 {X : Nat} (h : isRow c X) (k : Int32 → Option AR) : gI (CW c A J) X 7 4 k = k (ii (A X 4)) := k_gI h.1.1 4 k
theorem rwS4 {X : Nat} (h : isRow c X) (v : Int) (k : AS → Option AR) : sI (CW c A J) X 7 4 (ii v) k = k (CW c (up A X 4 v) J) := k_sI h.1.1 4 v k
theorem rwI5 {X : Nat} (h : isRow c X) (k : Int32 → Option AR) : gI (CW c A J) X 7 5 k = k (ii (A X 5)) := k_gI h.1.1 5 k
theorem rwS5 {X : Nat} (h : isRow c X) (v : Int) (k : AS → Option AR) : sI (CW c A J) X 7 5 (ii v) k = k (CW c (up A X 5 v) J) := k_sI h.1.1 5 v k
theorem rwI7 {X : Nat} (h : isRow c X) (k : Int32 → Option AR) : gI (CW c A J) X 7 7 k = k (ii (A X 7)) := k_gI h.1.1 7 k
theorem rwS7 {X : Nat} (h : isRow c X) (v : Int) (k : AS → Option AR) : sI (CW c A J) X 7 7 (ii v) k = k (CW c (up A X 7 v) J) := k_sI h.1.1 7 v k
theorem rwI8 {X : Nat} (h : isRow c X) (k : Int32 → Option AR) : gI (CW c A J) X 7 8 k = k (ii (A X 8)) := k_gI h.1.1 8 k
theorem rwS8 {X : Nat} (h : isRow c X) (v : Int) (k : AS → Option AR) : sI (CW c A J) X 7 8 (ii v) k = k (CW c (up A X 8 v) J) := k_sI h.1.1 8 v k
theorem rwI9 {X : Nat} (h : isRow c X) (k : Int32 → Option AR) : gI (CW c A J) X 7 9 k = k (ii (A X 9)) := k_gI h.1.1 9 k
theorem rwS9 {X : Nat} (h : isRow c X) (v : Int) (k : AS → Option AR) : sI (CW c A J) X 7 9 (ii v) k = k (CW c (up A X 9 v) J) := k_sI h.1.1 9 v k
theorem rwR0 {X : Nat} (h : isRow c X) (k : Nat → Option AR) : gR (CW c A J) X 7 0 k = k (X + 1) := k_gR h.1.1 h.2.1 k
theorem rwR3 {X : Nat} (h : isRow c X) (k : Nat → Option AR) : gR (CW c A J) X 7 3 k = k (X + 2) := k_gR h.1.1 h.2.2.1 k
theorem rwR6 {X : Nat} (h : isRow c X) (k : Nat → Option AR) : gR (CW c A J) X 7 6 k = k (X + 3) := k_gR h.1.1 h.2.2.2 k
theorem rwA1 {X : Nat} (h : isRow c X) (z : Int) (k : Int32 → Option AR) (hz : 0 ≤ z ∧ z < 6) : aI (CW c A J) (X + 1) 100 (ii z) k = k (ii (A (X + 1) z)) := k_aI h.1.2.1 z (by omega) k
theorem rwU1 {X : Nat} (h : isRow c X) (z v : Int) (k : AS → Option AR) (hz : 0 ≤ z ∧ z < 6) : uI (CW c A J) (X + 1) (ii z) (ii v) k = k (CW c (up A (X + 1) z v) J) := k_uI h.1.2.1 z v (by omega) k
theorem rwA3 {X : Nat} (h : isRow c X) (z : Int) (k : Int32 → Option AR) (hz : 0 ≤ z ∧ z < 10) : aI (CW c A J) (X + 3) 100 (ii z) k = k (ii (A (X + 3) z)) := k_aI h.1.2.2.2 z (by omega) k
theorem rwU3 {X : Nat} (h : isRow c X) (z v : Int) (k : AS → Option AR) (hz : 0 ≤ z ∧ z < 10) : uI (CW c A J) (X + 3) (ii z) (ii v) k = k (CW c (up A (X + 3) z v) J) := k_uI h.1.2.2.2 z v (by omega) k
theorem rwV {X : Nat} (h : isRow c X) (x : Option AR) (g : Option Value → AS → Option AR) : cV (CW c A J) X 7 x g = cS (CW c A J) x g := k_V h.1.1 x g
theorem rwJ {X : Nat} (h : isRow c X) (z : Int) (k : Int64 → Option AR) (hz : 0 ≤ z ∧ z < 32) : aJ (CW c A J) (X + 2) (ii z) k = k (J (X + 2) z.toNat) := k_aJ h.1.2.2.1 z (by omega) k
theorem rwUJ {X : Nat} (h : isRow c X) (z : Int) (v : Int64) (k : AS → Option AR) (hz : 0 ≤ z ∧ z < 32) : uJ (CW c A J) (X + 2) (ii z) v k = k (CW c A (upJ J (X + 2) z.toNat v)) := k_uJ h.1.2.2.1 z v (by omega) k
theorem plI0 {X : Nat} (h : isPlan c X) (k : Int32 → Option AR) : gI (CW c A J) X 5 0 k = k (ii (A X 0)) := k_gI h.1.1 0 k
theorem plS0 {X : Nat} (h : isPlan c X) (v : Int) (k : AS → Option AR) : sI (CW c A J) X 5 0 (ii v) k = k (CW c (up A X 0 v) J) := k_sI h.1.1 0 v k
theorem plI1 {X : Nat} (h : isPlan c X) (k : Int32 → Option AR) : gI (CW c A J) X 5 1 k = k (ii (A X 1)) := k_gI h.1.1 1 k
theorem plS1 {X : Nat} (h : isPlan c X) (v : Int) (k : AS → Option AR) : sI (CW c A J) X 5 1 (ii v) k = k (CW c (up A X 1 v) J) := k_sI h.1.1 1 v k
theorem plI2 {X : Nat} (h : isPlan c X) (k : Int32 → Option AR) : gI (CW c A J) X 5 2 k = k (ii (A X 2)) := k_gI h.1.1 2 k
theorem plS2 {X : Nat} (h : isPlan c X) (v : Int) (k : AS → Option AR) : sI (CW c A J) X 5 2 (ii v) k = k (CW c (up A X 2 v) J) := k_sI h.1.1 2 v k
theorem plI3 {X : Nat} (h : isPlan c X) (k : Int32 → Option AR) : gI (CW c A J) X 5 3 k = k (ii (A X 3)) := k_gI h.1.1 3 k
theorem plS3 {X : Nat} (h : isPlan c X) (v : Int) (k : AS → Option AR) : sI (CW c A J) X 5 3 (ii v) k = k (CW c (up A X 3 v) J) := k_sI h.1.1 3 v k
theorem plI4 {X : Nat} (h : isPlan c X) (k : Int32 → Option AR) : gI (CW c A J) X 5 4 k = k (ii (A X 4)) := k_gI h.1.1 4 k
theorem plS4 {X : Nat} (h : isPlan c X) (v : Int) (k : AS → Option AR) : sI (CW c A J) X 5 4 (ii v) k = k (CW c (up A X 4 v) J) := k_sI h.1.1 4 v k
theorem plI5 {X : Nat} (h : isPlan c X) (k : Int32 → Option AR) : gI (CW c A J) X 5 5 k = k (ii (A X 5)) := k_gI h.1.1 5 k
theorem plS5 {X : Nat} (h : isPlan c X) (v : Int) (k : AS → Option AR) : sI (CW c A J) X 5 5 (ii v) k = k (CW c (up A X 5 v) J) := k_sI h.1.1 5 v k
theorem plI6 {X : Nat} (h : isPlan c X) (k : Int32 → Option AR) : gI (CW c A J) X 5 6 k = k (ii (A X 6)) := k_gI h.1.1 6 k
theorem plS6 {X : Nat} (h : isPlan c X) (v : Int) (k : AS → Option AR) : sI (CW c A J) X 5 6 (ii v) k = k (CW c (up A X 6 v) J) := k_sI h.1.1 6 v k
theorem plI7 {X : Nat} (h : isPlan c X) (k : Int32 → Option AR) : gI (CW c A J) X 5 7 k = k (ii (A X 7)) := k_gI h.1.1 7 k
theorem plS7 {X : Nat} (h : isPlan c X) (v : Int) (k : AS → Option AR) : sI (CW c A J) X 5 7 (ii v) k = k (CW c (up A X 7 v) J) := k_sI h.1.1 7 v k
theorem plR8 {X : Nat} (h : isPlan c X) (k : Nat → Option AR) : gR (CW c A J) X 5 8 k = k (X + 1) := k_gR h.1.1 h.2.1 k
theorem plR9 {X : Nat} (h : isPlan c X) (k : Nat → Option AR) : gR (CW c A J) X 5 9 k = k (X + 2) := k_gR h.1.1 h.2.2.1 k
theorem plR10 {X : Nat} (h : isPlan c X) (k : Nat → Option AR) : gR (CW c A J) X 5 10 k = k (X + 3) := k_gR h.1.1 h.2.2.2 k
theorem plA1 {X : Nat} (h : isPlan c X) (z : Int) (k : Int32 → Option AR) (hz : 0 ≤ z ∧ z < 10) : aI (CW c A J) (X + 1) 101 (ii z) k = k (ii (A (X + 1) z)) := k_aI h.1.2.1 z (by omega) k
theorem plU1 {X : Nat} (h : isPlan c X) (z v : Int) (k : AS → Option AR) (hz : (0 ≤ z ∧ z < 10) ∧ 0 ≤ v ∧ v ≤ 1) : uN 101 .boolean (CW c A J) (X + 1) (ii z) (ii v) k = k (CW c (up A (X + 1) z v) J) := k_uZ h.1.2.1 z v (by omega) hz.2 k
theorem plA2 {X : Nat} (h : isPlan c X) (z : Int) (k : Int32 → Option AR) (hz : 0 ≤ z ∧ z < 10) : aI (CW c A J) (X + 2) 100 (ii z) k = k (ii (A (X + 2) z)) := k_aI h.1.2.2.1 z (by omega) k
theorem plU2 {X : Nat} (h : isPlan c X) (z v : Int) (k : AS → Option AR) (hz : 0 ≤ z ∧ z < 10) : uI (CW c A J) (X + 2) (ii z) (ii v) k = k (CW c (up A (X + 2) z v) J) := k_uI h.1.2.2.1 z v (by omega) k
theorem plA3 {X : Nat} (h : isPlan c X) (z : Int) (k : Int32 → Option AR) (hz : 0 ≤ z ∧ z < 10) : aI (CW c A J) (X + 3) 100 (ii z) k = k (ii (A (X + 3) z)) := k_aI h.1.2.2.2 z (by omega) k
theorem plU3 {X : Nat} (h : isPlan c X) (z v : Int) (k : AS → Option AR) (hz : 0 ≤ z ∧ z < 10) : uI (CW c A J) (X + 3) (ii z) (ii v) k = k (CW c (up A (X + 3) z v) J) := k_uI h.1.2.2.2 z v (by omega) k
theorem plV {X : Nat} (h : isPlan c X) (x : Option AR) (g : Option Value → AS → Option AR) : cV (CW c A J) X 5 x g = cS (CW c A J) x g := k_V h.1.1 x g
theorem stI2 {X : Nat} (h : isState c X) (k : Int32 → Option AR) : gI (CW c A J) X 9 2 k = k (ii (A X 2)) := k_gI h.1.1 2 k
theorem stS2 {X : Nat} (h : isState c X) (v : Int) (k : AS → Option AR) : sI (CW c A J) X 9 2 (ii v) k = k (CW c (up A X 2 v) J) := k_sI h.1.1 2 v k
theorem stI3 {X : Nat} (h : isState c X) (k : Int32 → Option AR) : gI (CW c A J) X 9 3 k = k (ii (A X 3)) := k_gI h.1.1 3 k
theorem stS3 {X : Nat} (h : isState c X) (v : Int) (k : AS → Option AR) : sI (CW c A J) X 9 3 (ii v) k = k (CW c (up A X 3 v) J) := k_sI h.1.1 3 v k
theorem stI4 {X : Nat} (h : isState c X) (k : Int32 → Option AR) : gI (CW c A J) X 9 4 k = k (ii (A X 4)) := k_gI h.1.1 4 k
theorem stS4 {X : Nat} (h : isState c X) (v : Int) (k : AS → Option AR) : sI (CW c A J) X 9 4 (ii v) k = k (CW c (up A X 4 v) J) := k_sI h.1.1 4 v k
theorem stI5 {X : Nat} (h : isState c X) (k : Int32 → Option AR) : gI (CW c A J) X 9 5 k = k (ii (A X 5)) := k_gI h.1.1 5 k
theorem stS5 {X : Nat} (h : isState c X) (v : Int) (k : AS → Option AR) : sI (CW c A J) X 9 5 (ii v) k = k (CW c (up A X 5 v) J) := k_sI h.1.1 5 v k
theorem stI6 {X : Nat} (h : isState c X) (k : Int32 → Option AR) : gI (CW c A J) X 9 6 k = k (ii (A X 6)) := k_gI h.1.1 6 k
theorem stS6 {X : Nat} (h : isState c X) (v : Int) (k : AS → Option AR) : sI (CW c A J) X 9 6 (ii v) k = k (CW c (up A X 6 v) J) := k_sI h.1.1 6 v k
theorem stI7 {X : Nat} (h : isState c X) (k : Int32 → Option AR) : gI (CW c A J) X 9 7 k = k (ii (A X 7)) := k_gI h.1.1 7 k
theorem stS7 {X : Nat} (h : isState c X) (v : Int) (k : AS → Option AR) : sI (CW c A J) X 9 7 (ii v) k = k (CW c (up A X 7 v) J) := k_sI h.1.1 7 v k
theorem stR0 {X : Nat} (h : isState c X) (k : Nat → Option AR) : gR (CW c A J) X 9 0 k = k (X + 1) := k_gR h.1.1 h.2.1.1 k
theorem stR1 {X : Nat} (h : isState c X) (k : Nat → Option AR) : gR (CW c A J) X 9 1 k = k (X + 2) := k_gR h.1.1 h.2.1.2 k
theorem stA2 {X : Nat} (h : isState c X) (z : Int) (k : Int32 → Option AR) (hz : 0 ≤ z ∧ z < 10) : aI (CW c A J) (X + 2) 100 (ii z) k = k (ii (A (X + 2) z)) := k_aI h.1.2.2 z (by omega) k
theorem stU2 {X : Nat} (h : isState c X) (z v : Int) (k : AS → Option AR) (hz : 0 ≤ z ∧ z < 10) : uI (CW c A J) (X + 2) (ii z) (ii v) k = k (CW c (up A (X + 2) z v) J) := k_uI h.1.2.2 z v (by omega) k
theorem stV {X : Nat} (h : isState c X) (x : Option AR) (g : Option Value → AS → Option AR) : cV (CW c A J) X 9 x g = cS (CW c A J) x g := k_V h.1.1 x g
theorem stRow {X : Nat} (h : isState c X) (z : Int) (k : Nat → Option AR) (hz : 0 ≤ z ∧ z < 8) : aR (CW c A J) (X + 1) 111 (ii z) k = k (rc X z) := k_aR _ h.1.2.1 z (by omega) (h.2.2 z hz.1 hz.2).1 k
theorem isState.row {X : Nat} (h : isState c X) (z : Int) (hz : 0 ≤ z ∧ z < 8) : isRow c (rc X z) := (h.2.2 z hz.1 hz.2).2
theorem svI5 {X : Nat} (h : isSolver c X) (k : Int32 → Option AR) : gI (CW c A J) X 8 5 k = k (ii (A X 5)) := k_gI h.1.1 5 k
theorem svS5 {X : Nat} (h : isSolver c X) (v : Int) (k : AS → Option AR) : sI (CW c A J) X 8 5 (ii v) k = k (CW c (up A X 5 v) J) := k_sI h.1.1 5 v k
theorem svI6 {X : Nat} (h : isSolver c X) (k : Int32 → Option AR) : gI (CW c A J) X 8 6 k = k (ii (A X 6)) := k_gI h.1.1 6 k
theorem svS6 {X : Nat} (h : isSolver c X) (v : Int) (k : AS → Option AR) : sI (CW c A J) X 8 6 (ii v) k = k (CW c (up A X 6 v) J) := k_sI h.1.1 6 v k
theorem svI7 {X : Nat} (h : isSolver c X) (k : Int32 → Option AR) : gI (CW c A J) X 8 7 k = k (ii (A X 7)) := k_gI h.1.1 7 k
theorem svS7 {X : Nat} (h : isSolver c X) (v : Int) (k : AS → Option AR) : sI (CW c A J) X 8 7 (ii v) k = k (CW c (up A X 7 v) J) := k_sI h.1.1 7 v k
theorem svR0 {X : Nat} (h : isSolver c X) (k : Nat → Option AR) : gR (CW c A J) X 8 0 k = k (X + 1) := k_gR h.1.1 h.2.1.1 k
theorem svR1 {X : Nat} (h : isSolver c X) (k : Nat → Option AR) : gR (CW c A J) X 8 1 k = k (X + 13) := k_gR h.1.1 h.2.1.2.1 k
theorem svR2 {X : Nat} (h : isSolver c X) (k : Nat → Option AR) : gR (CW c A J) X 8 2 k = k (X + 14) := k_gR h.1.1 h.2.1.2.2.1 k
theorem svR3 {X : Nat} (h : isSolver c X) (k : Nat → Option AR) : gR (CW c A J) X 8 3 k = k (X + 15) := k_gR h.1.1 h.2.1.2.2.2.1 k
theorem svR4 {X : Nat} (h : isSolver c X) (k : Nat → Option AR) : gR (CW c A J) X 8 4 k = k (X + 16) := k_gR h.1.1 h.2.1.2.2.2.2 k
theorem svA13 {X : Nat} (h : isSolver c X) (z : Int) (k : Int32 → Option AR) (hz : 0 ≤ z ∧ z < 501) : aI (CW c A J) (X + 13) 100 (ii z) k = k (ii (A (X + 13) z)) := k_aI h.1.2.2.1 z (by omega) k
theorem svU13 {X : Nat} (h : isSolver c X) (z v : Int) (k : AS → Option AR) (hz : 0 ≤ z ∧ z < 501) : uI (CW c A J) (X + 13) (ii z) (ii v) k = k (CW c (up A (X + 13) z v) J) := k_uI h.1.2.2.1 z v (by omega) k
theorem svA14 {X : Nat} (h : isSolver c X) (z : Int) (k : Int32 → Option AR) (hz : 0 ≤ z ∧ z < 501) : aI (CW c A J) (X + 14) 100 (ii z) k = k (ii (A (X + 14) z)) := k_aI h.1.2.2.2.1 z (by omega) k
theorem svU14 {X : Nat} (h : isSolver c X) (z v : Int) (k : AS → Option AR) (hz : 0 ≤ z ∧ z < 501) : uI (CW c A J) (X + 14) (ii z) (ii v) k = k (CW c (up A (X + 14) z v) J) := k_uI h.1.2.2.2.1 z v (by omega) k
theorem svA15 {X : Nat} (h : isSolver c X) (z : Int) (k : Int32 → Option AR) (hz : 0 ≤ z ∧ z < 10) : aI (CW c A J) (X + 15) 100 (ii z) k = k (ii (A (X + 15) z)) := k_aI h.1.2.2.2.2.1 z (by omega) k
theorem svU15 {X : Nat} (h : isSolver c X) (z v : Int) (k : AS → Option AR) (hz : 0 ≤ z ∧ z < 10) : uI (CW c A J) (X + 15) (ii z) (ii v) k = k (CW c (up A (X + 15) z v) J) := k_uI h.1.2.2.2.2.1 z v (by omega) k
theorem svA16 {X : Nat} (h : isSolver c X) (z : Int) (k : Int32 → Option AR) (hz : 0 ≤ z ∧ z < 10) : aI (CW c A J) (X + 16) 100 (ii z) k = k (ii (A (X + 16) z)) := k_aI h.1.2.2.2.2.2 z (by omega) k
theorem svU16 {X : Nat} (h : isSolver c X) (z v : Int) (k : AS → Option AR) (hz : 0 ≤ z ∧ z < 10) : uI (CW c A J) (X + 16) (ii z) (ii v) k = k (CW c (up A (X + 16) z v) J) := k_uI h.1.2.2.2.2.2 z v (by omega) k
theorem svV {X : Nat} (h : isSolver c X) (x : Option AR) (g : Option Value → AS → Option AR) : cV (CW c A J) X 8 x g = cS (CW c A J) x g := k_V h.1.1 x g
theorem svRow {X : Nat} (h : isSolver c X) (z : Int) (k : Nat → Option AR) (hz : 0 ≤ z ∧ z < 11) : aR (CW c A J) (X + 1) 110 (ii z) k = k (fr X z) := k_aR _ h.1.2.1 z (by omega) (h.2.2 z hz.1 hz.2).1 k
theorem svF {X : Nat} (h : isSolver c X) (p z : Int) (k : Int32 → Option AR) (hz : (0 ≤ p ∧ p < 11) ∧ 0 ≤ z ∧ z < 501) : aI (CW c A J) (fr X p) 100 (ii z) k = k (ii (A (fr X p) z)) := k_aI (h.2.2 p hz.1.1 hz.1.2).2 z (by omega) k
theorem svUF {X : Nat} (h : isSolver c X) (p z v : Int) (k : AS → Option AR) (hz : (0 ≤ p ∧ p < 11) ∧ 0 ≤ z ∧ z < 501) : uI (CW c A J) (fr X p) (ii z) (ii v) k = k (CW c (up A (fr X p) z v) J) := k_uI (h.2.2 p hz.1.1 hz.1.2).2 z v (by omega) k
theorem hiI1 {X : Nat} (h : isHist c X) (k : Int32 → Option AR) : gI (CW c A J) X 4 1 k = k (ii (A X 1)) := k_gI h.1.1 1 k
theorem hiS1 {X : Nat} (h : isHist c X) (v : Int) (k : AS → Option AR) : sI (CW c A J) X 4 1 (ii v) k = k (CW c (up A X 1 v) J) := k_sI h.1.1 1 v k
theorem hiI2 {X : Nat} (h : isHist c X) (k : Int32 → Option AR) : gI (CW c A J) X 4 2 k = k (ii (A X 2)) := k_gI h.1.1 2 k
theorem hiS2 {X : Nat} (h : isHist c X) (v : Int) (k : AS → Option AR) : sI (CW c A J) X 4 2 (ii v) k = k (CW c (up A X 2 v) J) := k_sI h.1.1 2 v k
theorem hiR0 {X : Nat} (h : isHist c X) (k : Nat → Option AR) : gR (CW c A J) X 4 0 k = k (X + 1) := k_gR h.1.1 h.2.1 k
theorem hiV {X : Nat} (h : isHist c X) (x : Option AR) (g : Option Value → AS → Option AR) : cV (CW c A J) X 4 x g = cS (CW c A J) x g := k_V h.1.1 x g
theorem hiRow {X : Nat} (h : isHist c X) (z : Int) (k : Nat → Option AR) (hz : 0 ≤ z ∧ z < 8) : aR (CW c A J) (X + 1) 112 (ii z) k = k (hs X z) := k_aR _ h.1.2 z (by omega) (h.2.2 z hz.1 hz.2).1 k
theorem rdI2 {X : Nat} (h : isReader c X) (k : Int32 → Option AR) : gI (CW c A J) X 6 2 k = k (ii (A X 2)) := k_gI h.1.1 2 k
theorem rdS2 {X : Nat} (h : isReader c X) (v : Int) (k : AS → Option AR) : sI (CW c A J) X 6 2 (ii v) k = k (CW c (up A X 2 v) J) := k_sI h.1.1 2 v k
theorem rdI3 {X : Nat} (h : isReader c X) (k : Int32 → Option AR) : gI (CW c A J) X 6 3 k = k (ii (A X 3)) := k_gI h.1.1 3 k
theorem rdS3 {X : Nat} (h : isReader c X) (v : Int) (k : AS → Option AR) : sI (CW c A J) X 6 3 (ii v) k = k (CW c (up A X 3 v) J) := k_sI h.1.1 3 v k
theorem rdI4 {X : Nat} (h : isReader c X) (k : Int32 → Option AR) : gI (CW c A J) X 6 4 k = k (ii (A X 4)) := k_gI h.1.1 4 k
theorem rdS4 {X : Nat} (h : isReader c X) (v : Int) (k : AS → Option AR) : sI (CW c A J) X 6 4 (ii v) k = k (CW c (up A X 4 v) J) := k_sI h.1.1 4 v k
theorem rdI5 {X : Nat} (h : isReader c X) (k : Int32 → Option AR) : gI (CW c A J) X 6 5 k = k (ii (A X 5)) := k_gI h.1.1 5 k
theorem rdS5 {X : Nat} (h : isReader c X) (v : Int) (k : AS → Option AR) : sI (CW c A J) X 6 5 (ii v) k = k (CW c (up A X 5 v) J) := k_sI h.1.1 5 v k
theorem rdI6 {X : Nat} (h : isReader c X) (k : Int32 → Option AR) : gI (CW c A J) X 6 6 k = k (ii (A X 6)) := k_gI h.1.1 6 k
theorem rdS6 {X : Nat} (h : isReader c X) (v : Int) (k : AS → Option AR) : sI (CW c A J) X 6 6 (ii v) k = k (CW c (up A X 6 v) J) := k_sI h.1.1 6 v k
theorem rdI7 {X : Nat} (h : isReader c X) (k : Int32 → Option AR) : gI (CW c A J) X 6 7 k = k (ii (A X 7)) := k_gI h.1.1 7 k
theorem rdS7 {X : Nat} (h : isReader c X) (v : Int) (k : AS → Option AR) : sI (CW c A J) X 6 7 (ii v) k = k (CW c (up A X 7 v) J) := k_sI h.1.1 7 v k
theorem rdI8 {X : Nat} (h : isReader c X) (k : Int32 → Option AR) : gI (CW c A J) X 6 8 k = k (ii (A X 8)) := k_gI h.1.1 8 k
theorem rdS8 {X : Nat} (h : isReader c X) (v : Int) (k : AS → Option AR) : sI (CW c A J) X 6 8 (ii v) k = k (CW c (up A X 8 v) J) := k_sI h.1.1 8 v k
theorem rdR0 {X : Nat} (h : isReader c X) (k : Nat → Option AR) : gR (CW c A J) X 6 0 k = k (X + 1) := k_gR h.1.1 h.2.1 k
theorem rdR1 {X : Nat} (h : isReader c X) (k : Nat → Option AR) : gR (CW c A J) X 6 1 k = k (X + 2) := k_gR h.1.1 h.2.2 k
theorem rdA1 {X : Nat} (h : isReader c X) (z : Int) (k : Int32 → Option AR) (hz : 0 ≤ z ∧ z < 500) : aI (CW c A J) (X + 1) 100 (ii z) k = k (ii (A (X + 1) z)) := k_aI h.1.2.1 z (by omega) k
theorem rdU1 {X : Nat} (h : isReader c X) (z v : Int) (k : AS → Option AR) (hz : 0 ≤ z ∧ z < 500) : uI (CW c A J) (X + 1) (ii z) (ii v) k = k (CW c (up A (X + 1) z v) J) := k_uI h.1.2.1 z v (by omega) k
theorem rdA2 {X : Nat} (h : isReader c X) (z : Int) (k : Int32 → Option AR) (hz : 0 ≤ z ∧ z < 8) : aI (CW c A J) (X + 2) 101 (ii z) k = k (ii (A (X + 2) z)) := k_aI h.1.2.2 z (by omega) k
theorem rdU2 {X : Nat} (h : isReader c X) (z v : Int) (k : AS → Option AR) (hz : (0 ≤ z ∧ z < 8) ∧ 0 ≤ v ∧ v ≤ 1) : uN 101 .boolean (CW c A J) (X + 2) (ii z) (ii v) k = k (CW c (up A (X + 2) z v) J) := k_uZ h.1.2.2 z v (by omega) hz.2 k
theorem rdV {X : Nat} (h : isReader c X) (x : Option AR) (g : Option Value → AS → Option AR) : cV (CW c A J) X 6 x g = cS (CW c A J) x g := k_V h.1.1 x g
end CWR
