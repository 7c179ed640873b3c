/-! THE LAW'S WORLD: its cells -/
def isWorld (c : CC) (w : Nat) : Prop :=
  (okc c w 13 16 ∧ okc c (w + 3) 100 8 ∧ okc c (w + 4) 100 4 ∧ okc c (w + 5) 100 4 ∧ okc c (w + 6) 100 4 ∧ okc c (w + 7) 100 6 ∧ okc c (w + 8) 101 4 ∧ okc c (w + 9) 110 8 ∧ okc c (w + 18) 110 8 ∧ okc c (w + 27) 100 8 ∧ okc c (w + 28) 100 8 ∧ okc c (w + 29) 100 8 ∧ okc c (w + 30) 100 8 ∧ okc c (w + 31) 100 8) ∧
  (ptr c w 1 (w + 3) ∧ ptr c w 2 (w + 4) ∧ ptr c w 3 (w + 5) ∧ ptr c w 4 (w + 6) ∧ ptr c w 5 (w + 7) ∧ ptr c w 6 (w + 8) ∧ ptr c w 7 (w + 9) ∧ ptr c w 8 (w + 18) ∧ ptr c w 9 (w + 27) ∧ ptr c w 10 (w + 28) ∧ ptr c w 11 (w + 29) ∧ ptr c w 12 (w + 30) ∧ ptr c w 13 (w + 31)) ∧
  ∀ r : Int, 0 ≤ r → r < 8 → (ptr c (w + 9) r.toNat (w + 10 + r.toNat) ∧ okc c (w + 10 + r.toNat) 100 6) ∧ ptr c (w + 18) r.toNat (w + 19 + r.toNat) ∧ okc c (w + 19 + r.toNat) 100 600
def inW (w b : Nat) : Prop := w ≤ b ∧ b < w + 32
def isDraws (c : CC) (d : Nat) : Prop := okc c d 11 2 ∧ ptr c d 0 5000000
section WLD
variable {c : CC} {A : AI} {J : JI} {w d : Nat}
theorem wdR1 (hW : isWorld c w) (k : Nat → Option AR) : gR (CW c A J) w 13 1 k = k (w + 3) := k_gR hW.1.1 hW.2.1.1 k
theorem wdR2 (hW : isWorld c w) (k : Nat → Option AR) : gR (CW c A J) w 13 2 k = k (w + 4) := k_gR hW.1.1 hW.2.1.2.1 k
theorem wdR3 (hW : isWorld c w) (k : Nat → Option AR) : gR (CW c A J) w 13 3 k = k (w + 5) := k_gR hW.1.1 hW.2.1.2.2.1 k
theorem wdR4 (hW : isWorld c w) (k : Nat → Option AR) : gR (CW c A J) w 13 4 k = k (w + 6) := k_gR hW.1.1 hW.2.1.2.2.2.1 k
theorem wdR5 (hW : isWorld c w) (k : Nat → Option AR) : gR (CW c A J) w 13 5 k = k (w + 7) := k_gR hW.1.1 hW.2.1.2.2.2.2.1 k
theorem wdR6 (hW : isWorld c w) (k : Nat → Option AR) : gR (CW c A J) w 13 6 k = k (w + 8) := k_gR hW.1.1 hW.2.1.2.2.2.2.2.1 k
theorem wdR7 (hW : isWorld c w) (k : Nat → Option AR) : gR (CW c A J) w 13 7 k = k (w + 9) := k_gR hW.1.1 hW.2.1.2.2.2.2.2.2.1 k
theorem wdR8 (hW : isWorld c w) (k : Nat → Option AR) : gR (CW c A J) w 13 8 k = k (w + 18) := k_gR hW.1.1 hW.2.1.2.2.2.2.2.2.2.1 k
theorem wdR9 (hW : isWorld c w) (k : Nat → Option AR) : gR (CW c A J) w 13 9 k = k (w + 27) := k_gR hW.1.1 hW.2.1.2.2.2.2.2.2.2.2.1 k
theorem wdR10 (hW : isWorld c w) (k : Nat → Option AR) : gR (CW c A J) w 13 10 k = k (w + 28) := k_gR hW.1.1 hW.2.1.2.2.2.2.2.2.2.2.2.1 k
theorem wdR11 (hW : isWorld c w) (k : Nat → Option AR) : gR (CW c A J) w 13 11 k = k (w + 29) := k_gR hW.1.1 hW.2.1.2.2.2.2.2.2.2.2.2.2.1 k
theorem wdR12 (hW : isWorld c w) (k : Nat → Option AR) : gR (CW c A J) w 13 12 k = k (w + 30) := k_gR hW.1.1 hW.2.1.2.2.2.2.2.2.2.2.2.2.2.1 k
theorem wdR13 (hW : isWorld c w) (k : Nat → Option AR) : gR (CW c A J) w 13 13 k = k (w + 31) := k_gR hW.1.1 hW.2.1.2.2.2.2.2.2.2.2.2.2.2.2 k
theorem wdI14 (hW : isWorld c w) (k : Int32 → Option AR) : gI (CW c A J) w 13 14 k = k (ii (A w 14)) := k_gI hW.1.1 14 k
theorem wdS14 (hW : isWorld c w) (v : Int) (k : AS → Option AR) : sI (CW c A J) w 13 14 (ii v) k = k (CW c (up A w 14 v) J) := k_sI hW.1.1 14 v k
theorem wdI15 (hW : isWorld c w) (k : Int32 → Option AR) : gI (CW c A J) w 13 15 k = k (ii (A w 15)) := k_gI hW.1.1 15 k
theorem wdS15 (hW : isWorld c w) (v : Int) (k : AS → Option AR) : sI (CW c A J) w 13 15 (ii v) k = k (CW c (up A w 15 v) J) := k_sI hW.1.1 15 v k
theorem wdA3 (hW : isWorld c w) (z : Int) (k : Int32 → Option AR) (hz : 0 ≤ z ∧ z < 8) : aI (CW c A J) (w + 3) 100 (ii z) k = k (ii (A (w + 3) z)) := k_aI hW.1.2.1 z (by omega) k
theorem wdU3 (hW : isWorld c w) (z v : Int) (k : AS → Option AR) (hz : 0 ≤ z ∧ z < 8) : uI (CW c A J) (w + 3) (ii z) (ii v) k = k (CW c (up A (w + 3) z v) J) := k_uI hW.1.2.1 z v (by omega) k
theorem wdA4 (hW : isWorld c w) (z : Int) (k : Int32 → Option AR) (hz : 0 ≤ z ∧ z < 4) : aI (CW c A J) (w + 4) 100 (ii z) k = k (ii (A (w + 4) z)) := k_aI hW.1.2.2.1 z (by omega) k
theorem wdU4 (hW : isWorld c w) (z v : Int) (k : AS → Option AR) (hz : 0 ≤ z ∧ z < 4) : uI (CW c A J) (w + 4) (ii z) (ii v) k = k (CW c (up A (w + 4) z v) J) := k_uI hW.1.2.2.1 z v (by omega) k
theorem wdA5 (hW : isWorld c w) (z : Int) (k : Int32 → Option AR) (hz : 0 ≤ z ∧ z < 4) : aI (CW c A J) (w + 5) 100 (ii z) k = k (ii (A (w + 5) z)) := k_aI hW.1.2.2.2.1 z (by omega) k
theorem wdU5 (hW : isWorld c w) (z v : Int) (k : AS → Option AR) (hz : 0 ≤ z ∧ z < 4) : uI (CW c A J) (w + 5) (ii z) (ii v) k = k (CW c (up A (w + 5) z v) J) := k_uI hW.1.2.2.2.1 z v (by omega) k
theorem wdA6 (hW : isWorld c w) (z : Int) (k : Int32 → Option AR) (hz : 0 ≤ z ∧ z < 4) : aI (CW c A J) (w + 6) 100 (ii z) k = k (ii (A (w + 6) z)) := k_aI hW.1.2.2.2.2.1 z (by omega) k
theorem wdU6 (hW : isWorld c w) (z v : Int) (k : AS → Option AR) (hz : 0 ≤ z ∧ z < 4) : uI (CW c A J) (w + 6) (ii z) (ii v) k = k (CW c (up A (w + 6) z v) J) := k_uI hW.1.2.2.2.2.1 z v (by omega) k
theorem wdA7 (hW : isWorld c w) (z : Int) (k : Int32 → Option AR) (hz : 0 ≤ z ∧ z < 6) : aI (CW c A J) (w + 7) 100 (ii z) k = k (ii (A (w + 7) z)) := k_aI hW.1.2.2.2.2.2.1 z (by omega) k
theorem wdU7 (hW : isWorld c w) (z v : Int) (k : AS → Option AR) (hz : 0 ≤ z ∧ z < 6) : uI (CW c A J) (w + 7) (ii z) (ii v) k = k (CW c (up A (w + 7) z v) J) := k_uI hW.1.2.2.2.2.2.1 z v (by omega) k
theorem wdA8 (hW : isWorld c w) (z : Int) (k : Int32 → Option AR) (hz : 0 ≤ z ∧ z < 4) : aI (CW c A J) (w + 8) 101 (ii z) k = k (ii (A (w + 8) z)) := k_aI hW.1.2.2.2.2.2.2.1 z (by omega) k
theorem wdU8 (hW : isWorld c w) (z v : Int) (k : AS → Option AR) (hz : (0 ≤ z ∧ z < 4) ∧ 0 ≤ v ∧ v ≤ 1) : uN 101 .boolean (CW c A J) (w + 8) (ii z) (ii v) k = k (CW c (up A (w + 8) z v) J) := k_uZ hW.1.2.2.2.2.2.2.1 z v (by omega) hz.2 k
theorem wdA27 (hW : isWorld c w) (z : Int) (k : Int32 → Option AR) (hz : 0 ≤ z ∧ z < 8) : aI (CW c A J) (w + 27) 100 (ii z) k = k (ii (A (w + 27) z)) := k_aI hW.1.2.2.2.2.2.2.2.2.2.1 z (by omega) k
theorem wdU27 (hW : isWorld c w) (z v : Int) (k : AS → Option AR) (hz : 0 ≤ z ∧ z < 8) : uI (CW c A J) (w + 27) (ii z) (ii v) k = k (CW c (up A (w + 27) z v) J) := k_uI hW.1.2.2.2.2.2.2.2.2.2.1 z v (by omega) k
theorem wdA28 (hW : isWorld c w) (z : Int) (k : Int32 → Option AR) (hz : 0 ≤ z ∧ z < 8) : aI (CW c A J) (w + 28) 100 (ii z) k = k (ii (A (w + 28) z)) := k_aI hW.1.2.2.2.2.2.2.2.2.2.2.1 z (by omega) k
theorem wdU28 (hW : isWorld c w) (z v : Int) (k : AS → Option AR) (hz : 0 ≤ z ∧ z < 8) : uI (CW c A J) (w + 28) (ii z) (ii v) k = k (CW c (up A (w + 28) z v) J) := k_uI hW.1.2.2.2.2.2.2.2.2.2.2.1 z v (by omega) k
theorem wdA29 (hW : isWorld c w) (z : Int) (k : Int32 → Option AR) (hz : 0 ≤ z ∧ z < 8) : aI (CW c A J) (w + 29) 100 (ii z) k = k (ii (A (w + 29) z)) := k_aI hW.1.2.2.2.2.2.2.2.2.2.2.2.1 z (by omega) k
theorem wdU29 (hW : isWorld c w) (z v : Int) (k : AS → Option AR) (hz : 0 ≤ z ∧ z < 8) : uI (CW c A J) (w + 29) (ii z) (ii v) k = k (CW c (up A (w + 29) z v) J) := k_uI hW.1.2.2.2.2.2.2.2.2.2.2.2.1 z v (by omega) k
theorem wdA30 (hW : isWorld c w) (z : Int) (k : Int32 → Option AR) (hz : 0 ≤ z ∧ z < 8) : aI (CW c A J) (w + 30) 100 (ii z) k = k (ii (A (w + 30) z)) := k_aI hW.1.2.2.2.2.2.2.2.2.2.2.2.2.1 z (by omega) k
theorem wdU30 (hW : isWorld c w) (z v : Int) (k : AS → Option AR) (hz : 0 ≤ z ∧ z < 8) : uI (CW c A J) (w + 30) (ii z) (ii v) k = k (CW c (up A (w + 30) z v) J) := k_uI hW.1.2.2.2.2.2.2.2.2.2.2.2.2.1 z v (by omega) k
theorem wdA31 (hW : isWorld c w) (z : Int) (k : Int32 → Option AR) (hz : 0 ≤ z ∧ z < 8) : aI (CW c A J) (w + 31) 100 (ii z) k = k (ii (A (w + 31) z)) := k_aI hW.1.2.2.2.2.2.2.2.2.2.2.2.2.2 z (by omega) k
theorem wdU31 (hW : isWorld c w) (z v : Int) (k : AS → Option AR) (hz : 0 ≤ z ∧ z < 8) : uI (CW c A J) (w + 31) (ii z) (ii v) k = k (CW c (up A (w + 31) z v) J) := k_uI hW.1.2.2.2.2.2.2.2.2.2.2.2.2.2 z v (by omega) k
theorem wdB (hW : isWorld c w) (r : Int) (k : Nat → Option AR) (hr : 0 ≤ r ∧ r < 8) : aR (CW c A J) (w + 9) 110 (ii r) k = k (w + 10 + r.toNat) := k_aR _ hW.1.2.2.2.2.2.2.2.1 r (by omega) (hW.2.2 r hr.1 hr.2).1.1 k
theorem wdP (hW : isWorld c w) (r : Int) (k : Nat → Option AR) (hr : 0 ≤ r ∧ r < 8) : aR (CW c A J) (w + 18) 110 (ii r) k = k (w + 19 + r.toNat) := k_aR _ hW.1.2.2.2.2.2.2.2.2.1 r (by omega) (hW.2.2 r hr.1 hr.2).2.1 k
theorem wdAB (hW : isWorld c w) (r z : Int) (k : Int32 → Option AR) (hz : (0 ≤ r ∧ r < 8) ∧ 0 ≤ z ∧ z < 6) : aI (CW c A J) (w + 10 + r.toNat) 100 (ii z) k = k (ii (A (w + 10 + r.toNat) z)) := k_aI (hW.2.2 r hz.1.1 hz.1.2).1.2 z (by omega) k
theorem wdUB (hW : isWorld c w) (r z v : Int) (k : AS → Option AR) (hz : (0 ≤ r ∧ r < 8) ∧ 0 ≤ z ∧ z < 6) : uI (CW c A J) (w + 10 + r.toNat) (ii z) (ii v) k = k (CW c (up A (w + 10 + r.toNat) z v) J) := k_uI (hW.2.2 r hz.1.1 hz.1.2).1.2 z v (by omega) k
theorem wdAP (hW : isWorld c w) (r z : Int) (k : Int32 → Option AR) (hz : (0 ≤ r ∧ r < 8) ∧ 0 ≤ z ∧ z < 600) : aI (CW c A J) (w + 19 + r.toNat) 100 (ii z) k = k (ii (A (w + 19 + r.toNat) z)) := k_aI (hW.2.2 r hz.1.1 hz.1.2).2.2 z (by omega) k
theorem wdUP (hW : isWorld c w) (r z v : Int) (k : AS → Option AR) (hz : (0 ≤ r ∧ r < 8) ∧ 0 ≤ z ∧ z < 600) : uI (CW c A J) (w + 19 + r.toNat) (ii z) (ii v) k = k (CW c (up A (w + 19 + r.toNat) z v) J) := k_uI (hW.2.2 r hz.1.1 hz.1.2).2.2 z v (by omega) k
theorem wdV (hW : isWorld c w) (x : Option AR) (g : Option Value → AS → Option AR) : cV (CW c A J) w 13 x g = cS (CW c A J) x g := k_V hW.1.1 x g
theorem drV (hd : isDraws c d) (x : Option AR) (g : Option Value → AS → Option AR) : cV (CW c A J) d 11 x g = cS (CW c A J) x g := k_V hd.1 x g
theorem drR0 (hd : isDraws c d) (k : Nat → Option AR) : gR (CW c A J) d 11 0 k = k 5000000 := k_gR hd.1 hd.2 k
theorem drI1 (hd : isDraws c d) (k : Int32 → Option AR) : gI (CW c A J) d 11 1 k = k (ii (A d 1)) := k_gI hd.1 1 k
theorem drS1 (hd : isDraws c d) (v : Int) (k : AS → Option AR) : sI (CW c A J) d 11 1 (ii v) k = k (CW c (up A d 1 v) J) := k_sI hd.1 1 v k
end WLD
