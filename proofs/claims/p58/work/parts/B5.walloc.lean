/-! THE LAW'S WORLD: its cells are laid -/
/-- new cells, and of the older ones the references of w from j on alone are other -/
def KJ (w j : Nat) (c c' : CC) (A A' : AI) (J J' : JI) : Prop := (c.2.2.1 ≤ c'.2.2.1 ∧ c.2.2.2.1 ≤ c'.2.2.2.1 ∧ c.2.2.2.2 ≤ c'.2.2.2.2) ∧ (∀ a, a < c.2.2.1 → c'.2.1 a = c.2.1 a) ∧ (∀ a i, a < c.2.2.1 → (a ≠ w ∨ i < j) → c'.1 a i = c.1 a i) ∧ (∀ (b : Nat) (z : Int), b < c.2.2.1 → A' b z = A b z) ∧ ∀ b i : Nat, b < c.2.2.1 → J' b i = J b i
section ALC
variable {c c' c2 : CC} {A A' A2 : AI} {J J' J2 : JI} {w j j' : Nat}
theorem KJ.refl (w j : Nat) (c : CC) (A : AI) (J : JI) : KJ w j c c A A J J := ⟨⟨Nat.le_refl _, Nat.le_refl _, Nat.le_refl _⟩, fun _ _ => rfl, fun _ _ _ _ => rfl, fun _ _ _ => rfl, fun _ _ _ => rfl⟩
theorem KJ.trans (h : KJ w j c c' A A' J J') (k : KJ w j' c' c2 A' A2 J' J2) (hj : j ≤ j') : KJ w j c c2 A A2 J J2 := by
  obtain ⟨h1, h2, h3, h4, h5⟩ := h
  obtain ⟨k1, k2, k3, k4, k5⟩ := k
  exact ⟨by omega, fun a q => (k2 a (by omega)).trans (h2 a q), fun a i q x => (k3 a i (by omega) (by omega)).trans (h3 a i q x), fun b z q => (k4 b z (by omega)).trans (h4 b z q), fun b i q => (k5 b i (by omega)).trans (h5 b i q)⟩
theorem KJ.okc {a t n : Nat} (h : KJ w j c c' A A' J J') (o : okc c a t n) : okc c' a t n := ⟨Nat.lt_of_lt_of_le o.1 h.1.1, (h.2.1 a o.1).trans o.2⟩
theorem KJ.ptr {a i q : Nat} (h : KJ w j c c' A A' J J') (p : ptr c a i q) (ha : a < c.2.2.1) (hne : a ≠ w ∨ i < j) : ptr c' a i q := (h.2.2.1 a i ha hne).trans p
theorem al_nA (hw : okc c w 13 16) (hz : c.2.2.1 < 1000000) (j t n : Nat) (i : Int32) (hi : i.toNatClampNeg = n ∧ ¬ i < 0 ∧ n ≤ 100000) : ∃ (c' : CC) (A' : AI) (J' : JI), (∀ k : AS → Option AR, nA (CW c A J) t i (fun q s => sR s w 13 j q k) = k (CW c' A' J')) ∧ KJ w j c c' A A' J J' ∧ (c'.2.2.1 = c.2.2.1 + 1 ∧ c'.2.2.2.1 = c.2.2.2.1 + 1 ∧ c'.2.2.2.2 = c.2.2.2.2 + n) ∧ (ptr c' w j c.2.2.1 ∧ okc c' c.2.2.1 t n) ∧ ∀ z, A' c.2.2.1 z = 0 := by
  have e1 : exc c (nwC c t n) := exc.new _ _ _
  have hw1 : okc (nwC c t n) w 13 16 := okc_x hw e1
  have hP : ∀ a i, (a ≠ w ∨ i < j) → (ptC (nwC c t n) w j c.2.2.1).1 a i = (nwC c t n).1 a i := fun a i x => by
    show ax_up2 (nwC c t n).1 w j (some c.2.2.1) a i = _
    unfold ax_up2
    exact if_neg (by omega)
  refine ⟨ptC (nwC c t n) w j c.2.2.1, nwA c A, nwJ c J, fun k => ?_, ⟨⟨Nat.le_succ _, Nat.le_succ _, Nat.le_add_right _ _⟩, fun a q => e1.2.1 a q, fun a i q x => (hP a i x).trans (e1.2.2 a i q), fun b z q => if_neg (by omega), fun b i q => if_neg (by omega)⟩, ⟨rfl, rfl, rfl⟩, ⟨ax_up2_s _ _ _ _, ⟨Nat.lt_succ_self _, if_pos rfl⟩⟩, fun z => if_pos rfl⟩
  rw [k_nA _ hz hi, k_sR hw1]
theorem al_M (hw : okc c w 13 16) (j K : Nat) : ∃ (c' : CC) (A' : AI) (J' : JI), (∀ k : AS → Option AR, sR (ax_newM (CW c A J) 8 K) w 13 j c.2.2.1 k = k (CW c' A' J')) ∧ KJ w j c c' A A' J J' ∧ (c'.2.2.1 = c.2.2.1 + 9 ∧ c'.2.2.2.1 = c.2.2.2.1 + 9 ∧ c'.2.2.2.2 = c.2.2.2.2 + 8 + 8 * K) ∧ (ptr c' w j c.2.2.1 ∧ okc c' c.2.2.1 110 8 ∧ ∀ r : Nat, r < 8 → ptr c' c.2.2.1 r (c.2.2.1 + 1 + r) ∧ okc c' (c.2.2.1 + 1 + r) 100 K) ∧ ∀ (b : Nat) (z : Int), c.2.2.1 ≤ b → b < c.2.2.1 + 9 → A' b z = 0 := by
  have hwz := hw.1
  obtain ⟨z, hzz⟩ : ∃ z, z = c.2.2.1 := ⟨_, rfl⟩
  let c1 : CC := (fun a b => if a = z then (if b < 8 then some (z + 1 + b) else none) else if z ≤ a ∧ a ≤ z + 8 then none else c.1 a b, fun a => if a = z then (110, 8) else if z ≤ a ∧ a ≤ z + 8 then (100, K) else c.2.1 a, z + 1 + 8, c.2.2.2.1 + 1 + 8, c.2.2.2.2 + 8 + 8 * K)
  let A1 : AI := fun b y => if z ≤ b ∧ b ≤ z + 8 then 0 else A b y
  let J1 : JI := fun b i => if z ≤ b ∧ b ≤ z + 8 then 0 else J b i
  have hnew : ax_newM (CW c A J) 8 K = CW c1 A1 J1 := by
    refine Prod.ext (funext fun a => funext fun b => ?_) ?_
    · show (if c.2.2.1 ≤ a ∧ a ≤ c.2.2.1 + 8 then (0 : Int32) else ii (A a (b : Int))) = ii (if z ≤ a ∧ a ≤ z + 8 then 0 else A a (b : Int))
      rw [← hzz]
      by_cases q : z ≤ a ∧ a ≤ z + 8
      · rw [if_pos q, if_pos q]; rfl
      · rw [if_neg q, if_neg q]
    · show _ = (J1, c1)
      show ((fun (a b : Nat) => if c.2.2.1 ≤ a ∧ a ≤ c.2.2.1 + 8 then (0 : Int64) else J a b), (fun (a b : Nat) => if a = c.2.2.1 then (if b < 8 then some (c.2.2.1 + 1 + b) else none) else if c.2.2.1 ≤ a ∧ a ≤ c.2.2.1 + 8 then none else c.1 a b), (fun a => if a = c.2.2.1 then (110, 8) else if c.2.2.1 ≤ a ∧ a ≤ c.2.2.1 + 8 then (100, K) else c.2.1 a), c.2.2.1 + 1 + 8, c.2.2.2.1 + 1 + 8, c.2.2.2.2 + 8 + 8 * K) = (J1, c1)
      rw [← hzz]
  have o1 : okc c1 w 13 16 := ⟨by show w < z + 1 + 8; omega, by show (if w = z then (110, 8) else if z ≤ w ∧ w ≤ z + 8 then (100, K) else c.2.1 w) = _; rw [if_neg (by omega), if_neg (by omega)]; exact hw.2⟩
  have hP : ∀ a i, (a ≠ w ∨ i ≠ j) → (ptC c1 w j z).1 a i = c1.1 a i := fun a i x => by
    show ax_up2 c1.1 w j (some z) a i = _
    unfold ax_up2
    exact if_neg (by omega)
  rw [hnew, ← hzz]
  refine ⟨ptC c1 w j z, A1, J1, fun k => k_sR o1 k, ⟨⟨?_, ?_, ?_⟩, fun a q => ?_, fun a i q x => ?_, fun b y q => ?_, fun b i q => ?_⟩, ⟨?_, ?_, ?_⟩, ⟨ax_up2_s _ _ _ _, ⟨?_, if_pos rfl⟩, fun r hr => ⟨?_, ⟨?_, ?_⟩⟩⟩, fun b y p q => if_pos (by omega)⟩
  · show c.2.2.1 ≤ z + 1 + 8; omega
  · show c.2.2.2.1 ≤ c.2.2.2.1 + 1 + 8; omega
  · show c.2.2.2.2 ≤ c.2.2.2.2 + 8 + 8 * K; omega
  · show (if a = z then (110, 8) else if z ≤ a ∧ a ≤ z + 8 then (100, K) else c.2.1 a) = _
    rw [if_neg (by omega), if_neg (by omega)]
  · rw [hP a i (by omega)]
    show (if a = z then (if i < 8 then some (z + 1 + i) else none) else if z ≤ a ∧ a ≤ z + 8 then none else c.1 a i) = _
    rw [if_neg (by omega), if_neg (by omega)]
  · show (if z ≤ b ∧ b ≤ z + 8 then 0 else A b y) = _
    rw [if_neg (by omega)]
  · show (if z ≤ b ∧ b ≤ z + 8 then 0 else J b i) = _
    rw [if_neg (by omega)]
  · show z + 1 + 8 = z + 9; omega
  · show c.2.2.2.1 + 1 + 8 = _; omega
  · rfl
  · show z < z + 1 + 8; omega
  · show (ptC c1 w j z).1 z r = some (z + 1 + r)
    rw [hP z r (by omega)]
    show (if z = z then (if r < 8 then some (z + 1 + r) else none) else _) = _
    rw [if_pos rfl, if_pos hr]
  · show z + 1 + r < z + 1 + 8; omega
  · show (if z + 1 + r = z then (110, 8) else if z ≤ z + 1 + r ∧ z + 1 + r ≤ z + 8 then (100, K) else c.2.1 (z + 1 + r)) = _
    rw [if_neg (by omega), if_pos (by omega)]
theorem al_M6 (hw : okc c w 13 16) (hz : c.2.2.1 < 900000) (j : Nat) (k : AS → Option AR) : nM6 (CW c A J) 8 6 (fun q s => sR s w 13 j q k) = sR (ax_newM (CW c A J) 8 6) w 13 j c.2.2.1 k := if_pos ⟨rfl, rfl, hz⟩
theorem al_M600 (hw : okc c w 13 16) (hz : c.2.2.1 < 900000) (j : Nat) (k : AS → Option AR) : nM600 (CW c A J) 8 600 (fun q s => sR s w 13 j q k) = sR (ax_newM (CW c A J) 8 600) w 13 j c.2.2.1 k := if_pos ⟨rfl, rfl, hz⟩
theorem al_SB (hw : okc c w 13 16) (hz : c.2.2.1 + 2 < 900000) : ∃ (c' : CC) (A' : AI) (J' : JI) (tv cap : Nat), (∀ k : AS → Option AR, nO (CW c A J) 1 4 (fun q1 s2 => cS s2 (fJ4_init_a7421 q1 1000036 s2) (qV (fun s3 => sR s3 w 13 0 q1 k))) = k (CW c' A' J')) ∧ KJ w 0 c c' A A' J J' ∧ (c'.2.2.1 = c.2.2.1 + 2 ∧ c'.2.2.2.1 = c.2.2.2.1 + 2 ∧ c'.2.2.2.2 ≤ c.2.2.2.2 + 27) ∧ ptr c' w 0 c.2.2.1 ∧ TG c' A' c.2.2.1 tv cap (tS 1000036 tP0) ∧ tv = c.2.2.1 + 1 ∧ cap ≤ 23 := by
  have hwz := hw.1
  have hzB := zB_e
  have e1 : exc c (nwC c 1 4) := exc.new _ _ _
  have oB : okc (nwC c 1 4) c.2.2.1 1 4 := ⟨Nat.lt_succ_self _, if_pos rfl⟩
  have hz1 : (nwC c 1 4).2.2.1 = c.2.2.1 + 1 := rfl
  obtain ⟨c1, A1, J1, tv, cap, g1, g2, ⟨⟨r1, r2, r3, r4⟩, ⟨nh, np⟩, na, nj⟩, g4, g5⟩ := u_initS (c := nwC c 1 4) (A := nwA c A) (J := nwJ c J) oB (if_pos rfl) 1000036 (by omega) (by rw [hz1]; omega)
  rw [hz1] at r1 nh np na nj g5
  have hc : (nwC c 1 4).2.2.1 ≤ c1.2.2.1 ∧ (nwC c 1 4).2.2.2.1 ≤ c1.2.2.2.1 ∧ (nwC c 1 4).2.2.2.2 ≤ c1.2.2.2.2 := by rw [hz1]; omega
  have o1 : okc c1 w 13 16 := ⟨by omega, (nh w (by omega)).trans (okc_x hw e1).2⟩
  have r2' : c1.2.2.2.1 = c.2.2.2.1 + 1 + 1 := r2
  have r3' : c.2.2.2.2 + 4 ≤ c1.2.2.2.2 := r3
  have r4' : c1.2.2.2.2 ≤ c.2.2.2.2 + 4 + 23 := r4
  have hP : ∀ a i, (a ≠ w ∨ i ≠ 0) → (ptC c1 w 0 c.2.2.1).1 a i = c1.1 a i := fun a i x => by
    show ax_up2 c1.1 w 0 (some c.2.2.1) a i = _
    unfold ax_up2
    exact if_neg (by omega)
  have htv := g2.1.2.2.1.1
  have hptv : c1.1 c.2.2.1 0 = some tv := g2.1.2.1
  obtain ⟨⟨k1, k2, k3, k4⟩, k5, k6, k7, k8⟩ := g2
  refine ⟨ptC c1 w 0 c.2.2.1, A1, J1, tv, cap, fun k => ?_, ⟨⟨by show c.2.2.1 ≤ c1.2.2.1; omega, by show c.2.2.2.1 ≤ c1.2.2.2.1; omega, by show c.2.2.2.2 ≤ c1.2.2.2.2; omega⟩, fun a q => (nh a (by omega)).trans (e1.2.1 a q), fun a i q x => ?_, fun b y q => (na b y (by omega) (by omega)).trans (if_neg (by omega)), fun b i q => (nj b i (by omega)).trans (if_neg (by omega))⟩, ⟨by show c1.2.2.1 = _; omega, by show c1.2.2.2.1 = _; omega, by show c1.2.2.2.2 ≤ _; omega⟩, ax_up2_s _ _ _ _, ⟨⟨k1, (hP _ _ (by omega)).trans k2, k3, k4⟩, k5, k6, k7, k8⟩, ?_, g4⟩
  · rw [k_nO _ (by omega), g1, k_Cl hc, q_V, k_sR o1]
  · rw [hP a i (by omega), np a i (by omega) (by omega)]
    exact e1.2.2 a i q
  · omega

theorem n_alloc (hw : okc c w 13 16) (hwz : c.2.2.1 = w + 1) (hz : w + 40 < 900000) : ∃ (c' : CC) (A' : AI) (J' : JI) (tv cap : Nat), (∀ k : AS → Option AR, (nO (CW c A J) 1 4 (fun q1 s2 =>
      cS s2 (fJ4_init_a7421 q1 1000036 s2) (qV (fun s3 =>
      sR s3 w 13 0 q1 (fun s4 =>
      nA s4 100 8 (fun q5 s6 =>
      sR s6 w 13 1 q5 (fun s7 =>
      nA s7 100 4 (fun q8 s9 =>
      sR s9 w 13 2 q8 (fun s10 =>
      nA s10 100 4 (fun q11 s12 =>
      sR s12 w 13 3 q11 (fun s13 =>
      nA s13 100 4 (fun q14 s15 =>
      sR s15 w 13 4 q14 (fun s16 =>
      nA s16 100 6 (fun q17 s18 =>
      sR s18 w 13 5 q17 (fun s19 =>
      nA s19 101 4 (fun q20 s21 =>
      sR s21 w 13 6 q20 (fun s22 =>
      nM6 s22 8 6 (fun q23 s24 =>
      sR s24 w 13 7 q23 (fun s25 =>
      nM600 s25 8 600 (fun q26 s27 =>
      sR s27 w 13 8 q26 (fun s28 =>
      nA s28 100 8 (fun q29 s30 =>
      sR s30 w 13 9 q29 (fun s31 =>
      nA s31 100 8 (fun q32 s33 =>
      sR s33 w 13 10 q32 (fun s34 =>
      nA s34 100 8 (fun q35 s36 =>
      sR s36 w 13 11 q35 (fun s37 =>
      nA s37 100 8 (fun q38 s39 =>
      sR s39 w 13 12 q38 (fun s40 =>
      nA s40 100 8 (fun q41 s42 =>
      sR s42 w 13 13 q41 (fun s43 => k s43))))))))))))))))))))))))))))))) = k (CW c' A' J')) ∧ isWorld c' w ∧ KJ w 0 c c' A A' J J' ∧ (c'.2.2.1 = w + 32 ∧ c'.2.2.2.1 = c.2.2.2.1 + 31 ∧ c'.2.2.2.2 ≤ c.2.2.2.2 + 6000) ∧ (ptr c' w 0 (w + 1) ∧ TG c' A' (w + 1) tv cap (tS 1000036 tP0) ∧ tv = w + 2 ∧ cap ≤ 23) ∧ ∀ (b : Nat) (z : Int), w + 3 ≤ b → b < w + 32 → A' b z = 0 := by
  obtain ⟨d1, E1, F1, tv, cap, k1, x1, n1, p1, t1, tv1, cap1⟩ := al_SB (A := A) (J := J) hw (by omega)
  have w1 := x1.okc hw
  obtain ⟨d2, E2, F2, k2, x2, n2, p2, z2⟩ := al_nA (A := E1) (J := F1) w1 (by omega) 1 100 8 8 ⟨rfl, by decide, by omega⟩
  have w2 := x2.okc w1
  obtain ⟨d3, E3, F3, k3, x3, n3, p3, z3⟩ := al_nA (A := E2) (J := F2) w2 (by omega) 2 100 4 4 ⟨rfl, by decide, by omega⟩
  have w3 := x3.okc w2
  obtain ⟨d4, E4, F4, k4, x4, n4, p4, z4⟩ := al_nA (A := E3) (J := F3) w3 (by omega) 3 100 4 4 ⟨rfl, by decide, by omega⟩
  have w4 := x4.okc w3
  obtain ⟨d5, E5, F5, k5, x5, n5, p5, z5⟩ := al_nA (A := E4) (J := F4) w4 (by omega) 4 100 4 4 ⟨rfl, by decide, by omega⟩
  have w5 := x5.okc w4
  obtain ⟨d6, E6, F6, k6, x6, n6, p6, z6⟩ := al_nA (A := E5) (J := F5) w5 (by omega) 5 100 6 6 ⟨rfl, by decide, by omega⟩
  have w6 := x6.okc w5
  obtain ⟨d7, E7, F7, k7, x7, n7, p7, z7⟩ := al_nA (A := E6) (J := F6) w6 (by omega) 6 101 4 4 ⟨rfl, by decide, by omega⟩
  have w7 := x7.okc w6
  have m8 := fun kk => al_M6 (A := E7) (J := F7) w7 (by omega) 7 kk
  obtain ⟨d8, E8, F8, k8, x8, n8, p8, z8⟩ := al_M (A := E7) (J := F7) w7 7 6
  have w8 := x8.okc w7
  have m9 := fun kk => al_M600 (A := E8) (J := F8) w8 (by omega) 8 kk
  obtain ⟨d9, E9, F9, k9, x9, n9, p9, z9⟩ := al_M (A := E8) (J := F8) w8 8 600
  have w9 := x9.okc w8
  obtain ⟨d10, E10, F10, k10, x10, n10, p10, z10⟩ := al_nA (A := E9) (J := F9) w9 (by omega) 9 100 8 8 ⟨rfl, by decide, by omega⟩
  have w10 := x10.okc w9
  obtain ⟨d11, E11, F11, k11, x11, n11, p11, z11⟩ := al_nA (A := E10) (J := F10) w10 (by omega) 10 100 8 8 ⟨rfl, by decide, by omega⟩
  have w11 := x11.okc w10
  obtain ⟨d12, E12, F12, k12, x12, n12, p12, z12⟩ := al_nA (A := E11) (J := F11) w11 (by omega) 11 100 8 8 ⟨rfl, by decide, by omega⟩
  have w12 := x12.okc w11
  obtain ⟨d13, E13, F13, k13, x13, n13, p13, z13⟩ := al_nA (A := E12) (J := F12) w12 (by omega) 12 100 8 8 ⟨rfl, by decide, by omega⟩
  have w13 := x13.okc w12
  obtain ⟨d14, E14, F14, k14, x14, n14, p14, z14⟩ := al_nA (A := E13) (J := F13) w13 (by omega) 13 100 8 8 ⟨rfl, by decide, by omega⟩
  have r14 : KJ w 14 d14 d14 E14 E14 F14 F14 := KJ.refl _ _ _ _ _
  have r13 : KJ w 13 d13 d14 E13 E14 F13 F14 := x14.trans r14 (by omega)
  have r12 : KJ w 12 d12 d14 E12 E14 F12 F14 := x13.trans r13 (by omega)
  have r11 : KJ w 11 d11 d14 E11 E14 F11 F14 := x12.trans r12 (by omega)
  have r10 : KJ w 10 d10 d14 E10 E14 F10 F14 := x11.trans r11 (by omega)
  have r9 : KJ w 9 d9 d14 E9 E14 F9 F14 := x10.trans r10 (by omega)
  have r8 : KJ w 8 d8 d14 E8 E14 F8 F14 := x9.trans r9 (by omega)
  have r7 : KJ w 7 d7 d14 E7 E14 F7 F14 := x8.trans r8 (by omega)
  have r6 : KJ w 6 d6 d14 E6 E14 F6 F14 := x7.trans r7 (by omega)
  have r5 : KJ w 5 d5 d14 E5 E14 F5 F14 := x6.trans r6 (by omega)
  have r4 : KJ w 4 d4 d14 E4 E14 F4 F14 := x5.trans r5 (by omega)
  have r3 : KJ w 3 d3 d14 E3 E14 F3 F14 := x4.trans r4 (by omega)
  have r2 : KJ w 2 d2 d14 E2 E14 F2 F14 := x3.trans r3 (by omega)
  have r1 : KJ w 1 d1 d14 E1 E14 F1 F14 := x2.trans r2 (by omega)
  have r0 : KJ w 0 c d14 A E14 J F14 := x1.trans r1 (by omega)
  have y0 : c.2.2.1 = w + 1 := by omega
  rw [y0] at p1 t1 tv1
  have y1 : d1.2.2.1 = w + 3 := by omega
  rw [y1] at p2 z2
  have y2 : d2.2.2.1 = w + 4 := by omega
  rw [y2] at p3 z3
  have y3 : d3.2.2.1 = w + 5 := by omega
  rw [y3] at p4 z4
  have y4 : d4.2.2.1 = w + 6 := by omega
  rw [y4] at p5 z5
  have y5 : d5.2.2.1 = w + 7 := by omega
  rw [y5] at p6 z6
  have y6 : d6.2.2.1 = w + 8 := by omega
  rw [y6] at p7 z7
  have y7 : d7.2.2.1 = w + 9 := by omega
  rw [y7] at p8 z8
  have y8 : d8.2.2.1 = w + 18 := by omega
  rw [y8] at p9 z9
  have y9 : d9.2.2.1 = w + 27 := by omega
  rw [y9] at p10 z10
  have y10 : d10.2.2.1 = w + 28 := by omega
  rw [y10] at p11 z11
  have y11 : d11.2.2.1 = w + 29 := by omega
  rw [y11] at p12 z12
  have y12 : d12.2.2.1 = w + 30 := by omega
  rw [y12] at p13 z13
  have y13 : d13.2.2.1 = w + 31 := by omega
  rw [y13] at p14 z14
  have kw : okc d14 w 13 16 := r0.okc hw
  have q0 := r1.ptr p1 (by omega) (Or.inr (by omega))
  have q1 := r2.ptr p2.1 (by omega) (Or.inr (by omega))
  have o1 := r2.okc p2.2
  have q2 := r3.ptr p3.1 (by omega) (Or.inr (by omega))
  have o2 := r3.okc p3.2
  have q3 := r4.ptr p4.1 (by omega) (Or.inr (by omega))
  have o3 := r4.okc p4.2
  have q4 := r5.ptr p5.1 (by omega) (Or.inr (by omega))
  have o4 := r5.okc p5.2
  have q5 := r6.ptr p6.1 (by omega) (Or.inr (by omega))
  have o5 := r6.okc p6.2
  have q6 := r7.ptr p7.1 (by omega) (Or.inr (by omega))
  have o6 := r7.okc p7.2
  have q7 := r8.ptr p8.1 (by omega) (Or.inr (by omega))
  have o7 := r8.okc p8.2.1
  have q8 := r9.ptr p9.1 (by omega) (Or.inr (by omega))
  have o8 := r9.okc p9.2.1
  have q9 := r10.ptr p10.1 (by omega) (Or.inr (by omega))
  have o9 := r10.okc p10.2
  have q10 := r11.ptr p11.1 (by omega) (Or.inr (by omega))
  have o10 := r11.okc p11.2
  have q11 := r12.ptr p12.1 (by omega) (Or.inr (by omega))
  have o11 := r12.okc p12.2
  have q12 := r13.ptr p13.1 (by omega) (Or.inr (by omega))
  have o12 := r13.okc p13.2
  have q13 := r14.ptr p14.1 (by omega) (Or.inr (by omega))
  have o13 := r14.okc p14.2
  refine ⟨d14, E14, F14, tv, cap, fun k => ?_, ⟨⟨kw, o1, o2, o3, o4, o5, o6, o7, o8, o9, o10, o11, o12, o13⟩, ⟨q1, q2, q3, q4, q5, q6, q7, q8, q9, q10, q11, q12, q13⟩, fun r a b => ⟨⟨?_, ?_⟩, ?_, ?_⟩⟩, r0, ⟨by omega, by omega, by omega⟩, ⟨q0, ?_, by omega, cap1⟩, fun b z a1 a2 => ?_⟩
  · rw [k1, k2, k3, k4, k5, k6, k7, m8, k8, m9, k9, k10, k11, k12, k13, k14]
  · have h := (p8.2.2 r.toNat (by omega)).1
    rw [show w + 9 + 1 + r.toNat = w + 10 + r.toNat by omega] at h
    exact r8.ptr h (by omega) (Or.inl (by omega))
  · have h := (p8.2.2 r.toNat (by omega)).2
    rw [show w + 9 + 1 + r.toNat = w + 10 + r.toNat by omega] at h
    exact r8.okc h
  · have h := (p9.2.2 r.toNat (by omega)).1
    rw [show w + 18 + 1 + r.toNat = w + 19 + r.toNat by omega] at h
    exact r9.ptr h (by omega) (Or.inl (by omega))
  · have h := (p9.2.2 r.toNat (by omega)).2
    rw [show w + 18 + 1 + r.toNat = w + 19 + r.toNat by omega] at h
    exact r9.okc h
  · obtain ⟨⟨k1, k2, k3, k4⟩, ⟨k5, k5'⟩, k6, k7, k8⟩ := t1
    have tz := k3.1
    refine ⟨⟨r1.okc k1, r1.ptr k2 (by omega) (Or.inl (by omega)), r1.okc k3, k4⟩, ⟨?_, ?_⟩, ⟨k6.1, k6.2.1, k6.2.2.1, k6.2.2.2.1, by have := k6.2.2.2.2; have := zB_e; omega⟩, fun k x y => ?_, fun k x y => ?_⟩
    · rw [r1.2.2.2.1 _ _ (by omega)]; exact k5
    · rw [r1.2.2.2.1 _ _ (by omega)]; exact k5'
    · rw [r1.2.2.2.1 _ _ tz]; exact k7 k x y
    · rw [r1.2.2.2.1 _ _ tz]; exact k8 k x y
  · rcases (show b = w + 3 ∨ b = w + 4 ∨ b = w + 5 ∨ b = w + 6 ∨ b = w + 7 ∨ b = w + 8 ∨ (w + 9 ≤ b ∧ b < w + 9 + 9) ∨ (w + 18 ≤ b ∧ b < w + 18 + 9) ∨ b = w + 27 ∨ b = w + 28 ∨ b = w + 29 ∨ b = w + 30 ∨ b = w + 31 by omega) with h | h | h | h | h | h | h | h | h | h | h | h | h
    · rw [h, r2.2.2.2.1 _ _ (by omega)]; exact z2 z
    · rw [h, r3.2.2.2.1 _ _ (by omega)]; exact z3 z
    · rw [h, r4.2.2.2.1 _ _ (by omega)]; exact z4 z
    · rw [h, r5.2.2.2.1 _ _ (by omega)]; exact z5 z
    · rw [h, r6.2.2.2.1 _ _ (by omega)]; exact z6 z
    · rw [h, r7.2.2.2.1 _ _ (by omega)]; exact z7 z
    · rw [r8.2.2.2.1 _ _ (by omega)]; exact z8 b z h.1 h.2
    · rw [r9.2.2.2.1 _ _ (by omega)]; exact z9 b z h.1 h.2
    · rw [h, r10.2.2.2.1 _ _ (by omega)]; exact z10 z
    · rw [h, r11.2.2.2.1 _ _ (by omega)]; exact z11 z
    · rw [h, r12.2.2.2.1 _ _ (by omega)]; exact z12 z
    · rw [h, r13.2.2.2.1 _ _ (by omega)]; exact z13 z
    · rw [h, r14.2.2.2.1 _ _ (by omega)]; exact z14 z
end ALC
