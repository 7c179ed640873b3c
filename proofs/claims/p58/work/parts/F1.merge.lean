/-! THE LAW'S START: two worlds that were made apart, as one -/
def zz_w : AS := (fun _ _ => 0, fun _ _ => 0, fun _ _ => none, fun _ => (0, 0), 0, 0, 0)
def shP (q : Nat) : Nat := if q < 1000000 then q + 455 else q
def mgC (c c1 : CC) : CC := (fun a j => if a < 455 then c.1 a j else (c1.1 (a - 455) j).map shP, fun a => if a < 455 then c.2.1 a else c1.2.1 (a - 455), 455 + c1.2.2.1, 20000, 200000)
def mgA (A A1 : AI) : AI := fun b z => if b < 455 then A b z else A1 (b - 455) z
def mgJ (J J1 : JI) : JI := fun b j => if b < 455 then J b j else J1 (b - 455) j
section MGE
variable {c c1 : CC} {A A1 : AI} {J J1 : JI} {a q t n j b w d : Nat}
theorem mgC_x (hz : c.2.2.1 = 455) : exc c (mgC c c1) := ⟨by rw [hz]; exact Nat.le_add_right _ _, fun a h => if_pos (by omega), fun a j h => if_pos (by omega)⟩
theorem mgA_lo (h : b < 455) (z : Int) : mgA A A1 b z = A b z := if_pos h
theorem mgA_hi (b : Nat) (z : Int) : mgA A A1 (b + 455) z = A1 b z := (if_neg (by omega)).trans (by rw [Nat.add_sub_cancel])
theorem okc_mg (h : okc c1 a t n) : okc (mgC c c1) (a + 455) t n := ⟨by show a + 455 < 455 + c1.2.2.1; have := h.1; omega, by
  show (if a + 455 < 455 then c.2.1 (a + 455) else c1.2.1 (a + 455 - 455)) = (t, n)
  rw [if_neg (by omega), Nat.add_sub_cancel]
  exact h.2⟩
theorem ptr_mg (h : ptr c1 a j q) (hq : q < 1000000) : ptr (mgC c c1) (a + 455) j (q + 455) := by
  show (if a + 455 < 455 then c.1 (a + 455) j else (c1.1 (a + 455 - 455) j).map shP) = some (q + 455)
  rw [if_neg (by omega), Nat.add_sub_cancel, show c1.1 a j = some q from h]
  show some (shP q) = _
  rw [shP, if_pos hq]
theorem ptr_mgS (h : ptr c1 a j 5000000) : ptr (mgC c c1) (a + 455) j 5000000 := by
  show (if a + 455 < 455 then c.1 (a + 455) j else (c1.1 (a + 455 - 455) j).map shP) = some 5000000
  rw [if_neg (by omega), Nat.add_sub_cancel, show c1.1 a j = some 5000000 from h]
  rfl
theorem isDraws_mg (h : isDraws c1 d) : isDraws (mgC c c1) (d + 455) := ⟨okc_mg h.1, ptr_mgS h.2⟩
theorem isWorld_mg (h : isWorld c1 1) : isWorld (mgC c c1) 456 := by
  obtain ⟨⟨a0, a3, a4, a5, a6, a7, a8, a9, a18, a27, a28, a29, a30, a31⟩, ⟨y1, y2, y3, y4, y5, y6, y7, y8, y9, y10, y11, y12, y13⟩, hr⟩ := h
  have o : ∀ {a t n : Nat}, okc c1 a t n → okc (mgC c c1) (a + 455) t n := fun h => okc_mg h
  refine ⟨⟨o a0, o a3, o a4, o a5, o a6, o a7, o a8, o a9, o a18, o a27, o a28, o a29, o a30, o a31⟩, ⟨ptr_mg y1 (by decide), ptr_mg y2 (by decide), ptr_mg y3 (by decide), ptr_mg y4 (by decide), ptr_mg y5 (by decide), ptr_mg y6 (by decide), ptr_mg y7 (by decide), ptr_mg y8 (by decide), ptr_mg y9 (by decide), ptr_mg y10 (by decide), ptr_mg y11 (by decide), ptr_mg y12 (by decide), ptr_mg y13 (by decide)⟩, fun r u v => ?_⟩
  obtain ⟨⟨r1, r2⟩, r3, r4⟩ := hr r u v
  rw [show 456 + 10 + r.toNat = 1 + 10 + r.toNat + 455 by omega, show 456 + 19 + r.toNat = 1 + 19 + r.toNat + 455 by omega]
  exact ⟨⟨ptr_mg r1 (by omega), o r2⟩, ptr_mg r3 (by omega), o r4⟩
theorem WR_mg {M : AI} {o g : Int → Int} (h : WR w A1 M o g) : WR (w + 455) (mgA A A1) M o g := by
  have e : ∀ (k : Nat) (z : Int), mgA A A1 (w + 455 + k) z = A1 (w + k) z := fun k z => by rw [show w + 455 + k = w + k + 455 by omega]; exact mgA_hi _ _
  have e0 : ∀ z : Int, mgA A A1 (w + 455) z = A1 w z := fun z => mgA_hi _ _
  have e2 : ∀ (i k : Nat) (z : Int), mgA A A1 (w + 455 + i + k) z = A1 (w + i + k) z := fun i k z => by rw [show w + 455 + i + k = w + i + k + 455 by omega]; exact mgA_hi _ _
  obtain ⟨⟨⟨a1, a2, a3, a4, a5, a6, a7⟩, a8, a9⟩, h2, ⟨b1, b2, b3, b4, b5⟩, h3, h4, h5⟩ := h
  refine ⟨⟨⟨(e 3 _).trans a1, (e 3 _).trans a2, (e 3 _).trans a3, (e 3 _).trans a4, (e 3 _).trans a5, (e 3 _).trans a6, (e 3 _).trans a7⟩, (e0 _).trans a8, (e0 _).trans a9⟩, fun k p q => ?_, ⟨(e 7 _).trans b1, (e 7 _).trans b2, (e 7 _).trans b3, (e 7 _).trans b4, (e 7 _).trans b5⟩, fun r p q => ?_, fun p x y => (e 6 _).trans (h4 p x y), fun k x y => by rw [e 8]; exact h5 k x y⟩
  · obtain ⟨x1, x2, x3⟩ := h2 k p q
    exact ⟨(e 4 _).trans x1, (e 8 _).trans x2, (e 5 _).trans x3⟩
  · obtain ⟨⟨x1, x2, x3, x4, x5⟩, x6, x7⟩ := h3 r p q
    exact ⟨⟨(e 27 _).trans x1, (e 28 _).trans x2, (e 29 _).trans x3, fun y => (e 30 _).trans (x4 y), (e 31 _).trans x5⟩, fun k u v => (e2 10 _ _).trans (x6 k u v), fun k u v => (e2 19 _ _).trans (x7 k u v)⟩
theorem TG_mg {B tv cap : Nat} {p : TP} (h : TG c1 A1 B tv cap p) (ht : tv < 1000000) (hz : c1.2.2.1 ≤ 2000) : TG (mgC c c1) (mgA A A1) (B + 455) (tv + 455) cap p := by
  have hzB := zB_e
  obtain ⟨⟨s1, s2, s3, s4⟩, ⟨p1, p2⟩, ⟨q1, q2, q3, q4, q5⟩, h4, h5⟩ := h
  refine ⟨⟨okc_mg s1, ptr_mg s2 ht, okc_mg s3, by omega⟩, ⟨(mgA_hi _ _).trans p1, (mgA_hi _ _).trans p2⟩, ⟨q1, q2, q3, q4, by show 455 + c1.2.2.1 ≤ zB + cap; omega⟩, fun k x y => (mgA_hi _ _).trans (h4 k x y), fun k x y => by rw [mgA_hi]; exact h5 k x y⟩
end MGE
/-! .. what holds ahead of the first call -/
theorem z_w0 : zz_w = CW e0C (fun _ _ => 0) (fun _ _ => 0) := rfl
theorem z_new {c : CC} {A : AI} {J : JI} (t n : Nat) : ax_new (CW c A J) t n = CW (nwC c t n) (nwA c A) (nwJ c J) := k_new
abbrev z_M : AI := up (up (fun _ _ => 0) 0 20 (-1)) 0 37 (-1)
theorem z_M0 (b : Nat) (z : Int) (h : ¬ (b = 0 ∧ z = 20)) (h2 : ¬ (b = 0 ∧ z = 37)) : z_M b z = 0 := (up_n _ _ _ _ _ _ h2).trans (up_n _ _ _ _ _ _ h)
set_option maxHeartbeats 4000000 in
theorem z_Inv : ∃ (c : CC) (A : AI) (J : JI), fX6_init 0 (ax_new zz_w 10 11) = some (Sum.inl none, CW c A J) ∧ (c.2.2.1 = 455 ∧ c.2.2.2.1 ≤ 1000 ∧ c.2.2.2.2 ≤ 100000) ∧ ∀ (c1 : CC) (A1 : AI) (J1 : JI), c1.2.2.1 ≤ 2000 → Inv CL NL 0 377 381 376 16 (mgC c c1) (mgA A A1) (mgJ J J1) z_M (z_M 3) := by
  obtain ⟨c, A, J, e, hP, ⟨k1, k2, k3, k4, k5, k6, k7⟩, ⟨k8, k9, k10, k11⟩, ⟨k12, k13⟩, ⟨k14, k15, k16⟩, ⟨z1, z2, z3, z4, z5⟩, f0, f1, f21, f374, f375, f376⟩ := c_init
  refine ⟨c, A, J, ?_, ⟨z1, z3, z5⟩, fun c1 A1 J1 hc1 => ?_⟩
  · rw [z_w0, z_new]
    exact e
  have x : exc c (mgC c c1) := mgC_x z1
  have y1 : (mgC c c1).2.2.1 = 455 + c1.2.2.1 := rfl
  have y2 : (mgC c c1).2.2.2.1 = 20000 := rfl
  have y3 : (mgC c c1).2.2.2.2 = 200000 := rfl
  have hp : ∀ q ∈ [(9, 381), (8, 377), (7, 375), (6, 374), (5, 373), (4, 338), (3, 303), (2, 21), (1, 4), (0, 1)], ptr (mgC c c1) 0 q.1 q.2 := fun q hq => ptr_x hP.1 (hP.2 q hq) x
  have gA : ∀ (b : Nat) (z : Int), b < 455 → mgA A A1 b z = A b z := fun b z h => mgA_lo h z
  have hz2 := zB_e
  have hCL := CL_e
  have hNL := NL_e
  generalize mgC c c1 = c2 at x y1 y2 y3 hp ⊢
  generalize mgA A A1 = A2 at gA ⊢
  generalize mgJ J J1 = J2 at ⊢
  refine ⟨⟨⟨okc_x hP.1 x, hp (0, 1) (by decide), hp (1, 4) (by decide), hp (2, 21) (by decide), hp (3, 303) (by decide), hp (4, 338) (by decide), hp (5, 373) (by decide), hp (6, 374) (by decide), hp (7, 375) (by decide), hp (8, 377) (by decide), hp (9, 381) (by decide)⟩,
    ⟨k1.x x, k2.x x, k3.x x, k4.x x, k5.x x, k6.x x, k7.x x⟩, ⟨okc_x k8 x, ptr_x k8 k9 x, ptr_x k8 k10 x, okc_x k11 x⟩, ⟨Or.inl ⟨rfl, rfl⟩, k12.x x, k13.x x⟩, ⟨okc_x k14 x, ptr_x k14 k15 x, okc_x k16 x, Or.inl rfl⟩, trivial⟩,
    ⟨by omega, by omega, by omega⟩, ⟨?_, ?_, ?_⟩, ?_, ⟨⟨?_, ?_, ?_⟩, fun k a b => ?_, ?_, ?_⟩, ⟨⟨?_, ?_, ?_, ?_⟩, ⟨?_, by omega, by omega⟩, fun k a b => ⟨fun q => ?_, ?_, ?_⟩⟩, fun h => ?_, fun _ => ⟨?_, ?_, ?_, fun k a b => ⟨⟨?_, ?_⟩, ?_, ?_⟩⟩, ⟨⟨?_, ?_, ?_⟩, ⟨?_, ?_⟩, fun i a b => ?_⟩, ⟨fun j a b => ⟨?_, ?_, ?_⟩, fun h => ?_, fun h => ?_⟩⟩
  · rw [gA 0 10 (by omega), f0, z_M0 _ _ (by omega) (by omega)]
  · rw [z_M0 _ _ (by omega) (by omega)]; omega
  · rw [z_M0 _ _ (by omega) (by omega)]; omega
  · exact up_s _ _ _ _
  · rw [gA 1 2 (by omega), f1.1, z_M0 _ _ (by omega) (by omega)]
  · rw [z_M0 _ _ (by omega) (by omega)]; omega
  · rw [z_M0 _ _ (by omega) (by omega)]; omega
  · rw [z_M0 _ _ (by omega) (by omega)] at b
    omega
  · rw [gA 1 3 (by omega), f1.2.1, z_M0 _ _ (by omega) (by omega)]
  · rw [gA 1 4 (by omega), f1.2.2]
    exact ((up_n _ _ _ _ _ _ (by omega)).trans (up_s _ _ _ _)).symm
  · rw [gA 375 3 (by omega), f375, z_M0 _ _ (by omega) (by omega)]
  · rw [z_M0 _ _ (by omega) (by omega)]; omega
  · rw [z_M0 _ _ (by omega) (by omega)]; omega
  · rw [gA 375 1 (by omega), f375]
  · rw [z_M0 _ _ (by omega) (by omega)]; omega
  · rw [z_M0 _ _ (by omega) (by omega)] at q
    omega
  · rw [gA 376 k (by omega), f376]; omega
  · rw [gA 376 k (by omega), f376]; omega
  · rw [z_M0 _ _ (by omega) (by omega)] at h
    omega
  · exact z_M0 _ _ (by omega) (by omega)
  · exact z_M0 _ _ (by omega) (by omega)
  · exact z_M0 _ _ (by omega) (by omega)
  · rw [z_M0 _ _ (by omega) (by omega)]; omega
  · rw [z_M0 _ _ (by omega) (by omega)]; omega
  · rw [z_M0 _ _ (by omega) (by omega)]; omega
  · rw [z_M0 _ _ (by omega) (by omega)]; omega
  · rw [gA 21 2 (by omega), f21, z_M0 _ _ (by omega) (by omega)]
  · rw [z_M0 _ _ (by omega) (by omega)]; omega
  · rw [z_M0 _ _ (by omega) (by omega)]; omega
  · rw [gA 21 1 (by omega), f21]; omega
  · rw [gA 21 1 (by omega), f21]; omega
  · rw [z_M0 _ _ (by omega) (by omega)] at b
    omega
  · rw [gA 374 j (by omega), f374, z_M0 _ _ (by omega) (by omega)]
  · rw [z_M0 _ _ (by omega) (by omega)]; omega
  · rw [z_M0 _ _ (by omega) (by omega)]; omega
  · rw [z_M0 _ _ (by omega) (by omega)] at h
    omega
  · rw [z_M0 _ _ (by omega) (by omega)] at h
    omega
/-- THE LAW, what it makes first, and what it answers over the two worlds as one -/
theorem z_start (sc : Nat × (Nat → Int32)) (hs : sc.1 < 2147483648) : ∃ (c cd c1 : CC) (A Ad A1 : AI) (J Jd J1 : JI), fX6_init 0 (ax_new zz_w 10 11) = some (Sum.inl none, CW c A J) ∧ fX17_init 0 5000000 (ax_new zz_w 11 2) = some (Sum.inl none, CW cd Ad Jd) ∧ fX19_init sc 1 0 (ax_new (CW cd Ad Jd) 13 16) = some (Sum.inl none, CW c1 A1 J1) ∧ (c.2.2.1 = 455 ∧ c.2.2.2.1 ≤ 1000 ∧ c.2.2.2.2 ≤ 100000) ∧ (cd.2.2.1 = 1 ∧ cd.2.2.2.1 = 1 ∧ cd.2.2.2.2 = 2) ∧ (2 ≤ c1.2.2.1 ∧ c1.2.2.1 ≤ 2000 ∧ c1.2.2.2.1 ≤ 1000 ∧ c1.2.2.2.2 ≤ 10000) ∧ LawR (fL_law_26 sc 455 456 0 (CW (mgC c c1) (mgA A A1) (mgJ J J1))) := by
  obtain ⟨c, A, J, e1, z1, hInv⟩ := z_Inv
  obtain ⟨cd, hcd⟩ : ∃ cd : CC, cd = ptC (nwC e0C 11 2) 0 0 5000000 := ⟨_, rfl⟩
  have o0 : okc (nwC e0C 11 2) 0 11 2 := nw_o (c := e0C) 11 2
  have e2 : fX17_init 0 5000000 (ax_new zz_w 11 2) = some (Sum.inl none, CW cd (nwA e0C (fun _ _ => 0)) (nwJ e0C (fun _ _ => 0))) := by
    rw [z_w0, z_new, fX17_init, k_sR o0, hcd]
  have od : okc cd 0 11 2 := by rw [hcd]; exact okc_pt o0 _ _ _
  have pd : ptr cd 0 0 5000000 := by rw [hcd]; exact ptC_s _ _ _ _
  have zd : cd.2.2.1 = 1 ∧ cd.2.2.2.1 = 1 ∧ cd.2.2.2.2 = 2 := by rw [hcd]; exact ⟨rfl, rfl, rfl⟩
  have ad0 : ∀ (b : Nat) (z : Int), nwA e0C (fun _ _ => 0) b z = 0 := fun b z => ite_self _
  clear hcd
  generalize nwA e0C (fun _ _ => 0) = Ad at e2 ad0
  generalize nwJ e0C (fun _ _ => 0) = Jd at e2
  have x : exc cd (nwC cd 13 16) := exc.new _ _ _
  have ow : okc (nwC cd 13 16) 1 13 16 := by
    have := nw_o (c := cd) 13 16
    rw [zd.1] at this
    exact this
  have zn : (nwC cd 13 16).2.2.1 = 2 ∧ (nwC cd 13 16).2.2.2.1 = 2 ∧ (nwC cd 13 16).2.2.2.2 = 18 := ⟨by show cd.2.2.1 + 1 = 2; omega, by show cd.2.2.2.1 + 1 = 2; omega, by show cd.2.2.2.2 + 16 = 18; omega⟩
  have an0 : ∀ (b : Nat) (z : Int), nwA cd Ad b z = 0 := fun b z => by
    show (if b = cd.2.2.1 then 0 else Ad b z) = 0
    rw [ad0, ite_self]
  obtain ⟨c1, A1, J1, tvb, capb, p, s, qn, ls, M, g, nr, e3, ⟨⟨hW, hB⟩, ⟨hT, htv⟩, ⟨hD, -⟩, hq, hcap, hzz⟩, hOK, hp, hll, hln, hP, hp4, hLd, hWR, h4, hg⟩ := n_world (A := nwA cd Ad) (J := nwJ cd Jd) (sc := sc) ow (by omega) (by omega) ⟨okc_x od x, ptr_x od pd x⟩ (by omega) (an0 0 1) (an0 1) hs
  have hcb : (capb : Int) ≤ 823 := by omega
  have b1 : 2 ≤ c1.2.2.1 ∧ c1.2.2.1 ≤ 2000 ∧ c1.2.2.2.1 ≤ 1000 ∧ c1.2.2.2.2 ≤ 10000 := by omega
  have htl : tvb < 1000000 := by
    have := hT.1.2.2.1.1
    omega
  refine ⟨c, cd, c1, A, Ad, A1, J, Jd, J1, e1, e2, by rw [z_new]; exact e3, z1, zd, b1, ?_⟩
  have hE : LwE 0 377 381 376 16 (mgC c c1) (mgA A A1) (mgJ J J1) z_M (z_M 3) 456 455 (tvb + 455) capb p M g := by
    refine ⟨hInv c1 A1 J1 b1.2.1, ⟨z_M0 _ _ (by omega) (by omega), z_M0 _ _ (by omega) (by omega), z_M0 _ _ (by omega) (by omega), z_M0 _ _ (by omega) (by omega)⟩, ⟨⟨isWorld_mg hW, ptr_mg hB (by decide)⟩, ⟨by omega, by omega, by show 456 + 32 ≤ 455 + c1.2.2.1; omega⟩, isDraws_mg hD⟩, ⟨TG_mg hT htl b1.2.1, by omega⟩, ?_, fun o ho => WR_mg (w := 1) (hWR o ho), hLd.1.1.2.1, by omega⟩
    rw [show (455 : Nat) = 0 + 455 from rfl, mgA_hi]
    omega
  exact n_law26 hE (by omega) ⟨by show 455 + c1.2.2.1 ≤ 20000; omega, Nat.le_refl _, Nat.le_refl _⟩ sc hs hOK hp hll hln hP hp4 h4 hg
