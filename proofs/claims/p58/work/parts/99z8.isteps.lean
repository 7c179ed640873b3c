/-! THE START: one more array into a field; a new object by its own steps -/
abbrev stp (c c' : CC) (A A' : AI) (J J' : JI) (a j t n : Nat) : Prop :=
  (c'.2.2.1 = c.2.2.1 + 1 ∧ c'.2.2.2.1 = c.2.2.2.1 + 1 ∧ c'.2.2.2.2 = c.2.2.2.2 + n) ∧ okc c' c.2.2.1 t n ∧ ptr c' a j c.2.2.1 ∧ (∀ b u m, okc c b u m → okc c' b u m) ∧ (∀ b i, b < c.2.2.1 → ¬ (b = a ∧ i = j) → c'.1 b i = c.1 b i) ∧ (∀ (b : Nat) (z : Int), b < c.2.2.1 → A' b z = A b z) ∧ (∀ z : Int, A' c.2.2.1 z = 0) ∧ ∀ b i, b < c.2.2.1 → J' b i = J b i
section ISP
variable {c c' c0 c1 : CC} {A A' A0 : AI} {J J' J0 : JI} {a b j q t n m u i v : Nat}
theorem k_step {ci : Nat} {x : Int32} (h : okc c a ci m) (hz : c.2.2.1 < 1000000) (hi : x.toNatClampNeg = n ∧ ¬ x < 0 ∧ n ≤ 100000) (t j : Nat) (A : AI) (J : JI) : ∃ (c' : CC) (A' : AI) (J' : JI), (∀ k : AS → Option AR, nA (CW c A J) t x (fun q s => sR s a ci j q k) = k (CW c' A' J')) ∧ stp c c' A A' J J' a j t n := by
  refine ⟨ptC (nwC c t n) a j c.2.2.1, nwA c A, nwJ c J, fun k => ?_, ⟨rfl, rfl, rfl⟩, ⟨Nat.lt_succ_self _, if_pos rfl⟩, ax_up2_s _ _ _ _, fun b u m o => okc_pt (okc_x o (exc.new _ _ _)) _ _ _, fun b i hb hn => ?_, fun b z hb => if_neg (by omega), fun z => if_pos rfl, fun b i hb => if_neg (by omega)⟩
  · rw [k_nA _ hz hi, k_sR (okc_x h (exc.new _ _ _))]
  · show ax_up2 _ a j _ b i = _
    rw [ax_up2_n _ _ hn]
    exact if_neg (by omega)
theorem stp.p (s : stp c c' A A' J J' a j t n) (o : b < c.2.2.1) (hn : ¬ (b = a ∧ i = j)) (p : ptr c b i q) : ptr c' b i q := (s.2.2.2.2.1 b i o hn).trans p
theorem stp.x (s : stp c c' A A' J J' a j t n) (x : exc c0 c) (ha : c0.2.2.1 ≤ a) : exc c0 c' := by
  obtain ⟨⟨s1, -, -⟩, -, -, s2, s3, -⟩ := s
  refine ⟨by have := x.1; omega, fun b p => ?_, fun b i p => ?_⟩
  · have o : okc c b (c.2.1 b).1 (c.2.1 b).2 := ⟨by have := x.1; omega, rfl⟩
    rw [(s2 _ _ _ o).2]
    exact x.2.1 b p
  · rw [s3 b i (by have := x.1; omega) (by omega)]
    exact x.2.2 b i p
/-- a new object, by what its constructor does -/
theorem i_obj {ci : Nat} {F : Nat → AS → Option AR} (hz : c.2.2.1 < 1000000) (hF : F c.2.2.1 (CW (nwC c ci n) (nwA c A) (nwJ c J)) = some (Sum.inl none, CW c' A' J')) (hle : c.2.2.1 + 1 ≤ c'.2.2.1 ∧ c.2.2.2.1 + 1 ≤ c'.2.2.2.1 ∧ c.2.2.2.2 + n ≤ c'.2.2.2.2) (k : Nat → AS → Option AR) : nO (CW c A J) ci n (fun q s => cS s (F q s) (qV (k q))) = k c.2.2.1 (CW c' A' J') := by
  rw [k_nO _ hz, hF, k_Cl (c := nwC c ci n) (c' := c') hle, q_V]
/-- what a new object leaves of the older world -/
abbrev oth (c : CC) (A A' : AI) (J J' : JI) : Prop := (∀ (b : Nat) (z : Int), b < c.2.2.1 → A' b z = A b z) ∧ ∀ b i : Nat, b < c.2.2.1 → J' b i = J b i
theorem oth.nw (t n : Nat) : oth c A (nwA c A) J (nwJ c J) := ⟨fun b z h => if_neg (by omega), fun b i h => if_neg (by omega)⟩
theorem oth.stp (h : oth c0 A0 A J0 J) (s : stp c c' A A' J J' a j t n) (hc : c0.2.2.1 ≤ c.2.2.1) : oth c0 A0 A' J0 J' := ⟨fun b z p => (s.2.2.2.2.2.1 b z (by omega)).trans (h.1 b z p), fun b i p => (s.2.2.2.2.2.2.2 b i (by omega)).trans (h.2 b i p)⟩
theorem oth.trans {A2 : AI} {J2 : JI} (h : oth c0 A0 A J0 J) (k : oth c A A2 J J2) (hc : c0.2.2.1 ≤ c.2.2.1) : oth c0 A0 A2 J0 J2 := ⟨fun b z p => (k.1 b z (by omega)).trans (h.1 b z p), fun b i p => (k.2 b i (by omega)).trans (h.2 b i p)⟩
theorem nw_o (ci m : Nat) : okc (nwC c ci m) c.2.2.1 ci m := ⟨Nat.lt_succ_self _, if_pos rfl⟩
theorem nw_A (z : Int) : nwA c A c.2.2.1 z = 0 := if_pos rfl
/-- a new plan -/
theorem i_plan (hz : c.2.2.1 < 900000) (A : AI) (J : JI) : ∃ (c' : CC) (A' : AI) (J' : JI), (∀ k : Nat → AS → Option AR, nO (CW c A J) 5 11 (fun q s => cS s (fX1_init q s) (qV (k q))) = k c.2.2.1 (CW c' A' J')) ∧ isPlan c' c.2.2.1 ∧ exc c c' ∧ (c'.2.2.1 = c.2.2.1 + 4 ∧ c'.2.2.2.1 = c.2.2.2.1 + 4 ∧ c'.2.2.2.2 = c.2.2.2.2 + 41) ∧ oth c A A' J J' := by
  have o0 := nw_o (c := c) 5 11
  have x0 : exc c (nwC c 5 11) := exc.new _ _ _
  have t0 := oth.nw (c := c) (A := A) (J := J) 5 11
  have z0 : (nwC c 5 11).2.2.1 = c.2.2.1 + 1 ∧ (nwC c 5 11).2.2.2.1 = c.2.2.2.1 + 1 ∧ (nwC c 5 11).2.2.2.2 = c.2.2.2.2 + 11 := ⟨rfl, rfl, rfl⟩
  have hob := fun c' A' J' => i_obj (c := c) (A := A) (J := J) (c' := c') (A' := A') (J' := J') (ci := 5) (n := 11) (F := fX1_init) (by omega)
  generalize nwC c 5 11 = c1 at o0 x0 z0 hob
  generalize nwA c A = A1 at t0 hob
  generalize nwJ c J = J1 at t0 hob
  obtain ⟨c2, A2, J2, e2, s2⟩ := k_step (n := 10) (x := 10) o0 (by omega) (by decide) 101 8 A1 J1
  obtain ⟨c3, A3, J3, e3, s3⟩ := k_step (n := 10) (x := 10) (s2.2.2.2.1 _ _ _ o0) (by have := s2.1; omega) (by decide) 100 9 A2 J2
  obtain ⟨c4, A4, J4, e4, s4⟩ := k_step (n := 10) (x := 10) (s3.2.2.2.1 _ _ _ (s2.2.2.2.1 _ _ _ o0)) (by have := s2.1; have := s3.1; omega) (by decide) 100 10 A3 J3
  have y2 := s2.1
  have y3 := s3.1
  have y4 := s4.1
  refine ⟨c4, A4, J4, fun k => hob c4 A4 J4 ?_ (by omega) k, ⟨⟨s4.2.2.2.1 _ _ _ (s3.2.2.2.1 _ _ _ (s2.2.2.2.1 _ _ _ o0)), ?_, ?_, ?_⟩, ?_, ?_, ?_⟩, s4.x (s3.x (s2.x x0 (Nat.le_refl _)) (Nat.le_refl _)) (Nat.le_refl _), by omega, ((t0.stp s2 (by omega)).stp s3 (by omega)).stp s4 (by omega)⟩
  · rw [fX1_init, e2, e3, e4]
  · rw [show c.2.2.1 + 1 = c1.2.2.1 by omega]; exact s4.2.2.2.1 _ _ _ (s3.2.2.2.1 _ _ _ s2.2.1)
  · rw [show c.2.2.1 + 2 = c2.2.2.1 by omega]; exact s4.2.2.2.1 _ _ _ s3.2.1
  · rw [show c.2.2.1 + 3 = c3.2.2.1 by omega]; exact s4.2.1
  · rw [show c.2.2.1 + 1 = c1.2.2.1 by omega]; exact s4.p (by omega) (by omega) (s3.p (by omega) (by omega) s2.2.2.1)
  · rw [show c.2.2.1 + 2 = c2.2.2.1 by omega]; exact s4.p (by omega) (by omega) s3.2.2.1
  · rw [show c.2.2.1 + 3 = c3.2.2.1 by omega]; exact s4.2.2.1
/-- a new reader -/
theorem i_reader (hz : c.2.2.1 < 900000) (A : AI) (J : JI) : ∃ (c' : CC) (A' : AI) (J' : JI), (∀ k : Nat → AS → Option AR, nO (CW c A J) 6 9 (fun q s => cS s (fX2_init q s) (qV (k q))) = k c.2.2.1 (CW c' A' J')) ∧ isReader c' c.2.2.1 ∧ exc c c' ∧ (c'.2.2.1 = c.2.2.1 + 3 ∧ c'.2.2.2.1 = c.2.2.2.1 + 3 ∧ c'.2.2.2.2 = c.2.2.2.2 + 517) ∧ oth c A A' J J' ∧ A' c.2.2.1 2 = 0 ∧ A' c.2.2.1 3 = 0 ∧ A' c.2.2.1 4 = -1 := by
  have o0 := nw_o (c := c) 6 9
  have x0 : exc c (nwC c 6 9) := exc.new _ _ _
  have t0 := oth.nw (c := c) (A := A) (J := J) 6 9
  have z0 : (nwC c 6 9).2.2.1 = c.2.2.1 + 1 ∧ (nwC c 6 9).2.2.2.1 = c.2.2.2.1 + 1 ∧ (nwC c 6 9).2.2.2.2 = c.2.2.2.2 + 9 := ⟨rfl, rfl, rfl⟩
  have a0 : ∀ z, nwA c A c.2.2.1 z = 0 := nw_A
  have hob := fun c' A' J' => i_obj (c := c) (A := A) (J := J) (c' := c') (A' := A') (J' := J') (ci := 6) (n := 9) (F := fX2_init) (by omega)
  generalize nwC c 6 9 = c1 at o0 x0 z0 hob
  generalize nwA c A = A1 at t0 hob a0
  generalize nwJ c J = J1 at t0 hob
  obtain ⟨c2, A2, J2, e2, s2⟩ := k_step (n := 500) (x := 500) o0 (by omega) (by decide) 100 0 A1 J1
  obtain ⟨c3, A3, J3, e3, s3⟩ := k_step (n := 8) (x := 8) (s2.2.2.2.1 _ _ _ o0) (by have := s2.1; omega) (by decide) 101 1 A2 J2
  have y2 := s2.1
  have y3 := s3.1
  have o3 : okc c3 c.2.2.1 6 9 := s3.2.2.2.1 _ _ _ (s2.2.2.2.1 _ _ _ o0)
  have t3 : oth c A A3 J J3 := (t0.stp s2 (by omega)).stp s3 (by omega)
  have a3 : ∀ z, A3 c.2.2.1 z = 0 := fun z => (s3.2.2.2.2.2.1 _ z (by omega)).trans ((s2.2.2.2.2.2.1 _ z (by omega)).trans (a0 z))
  have e1 : (-1 : Int32) = ii (-1) := by decide
  refine ⟨c3, up A3 c.2.2.1 4 (-1), J3, fun k => hob c3 (up A3 c.2.2.1 4 (-1)) J3 ?_ (by omega) k, ⟨⟨o3, ?_, ?_⟩, ?_, ?_⟩, s3.x (s2.x x0 (Nat.le_refl _)) (Nat.le_refl _), by omega, ⟨fun b z p => (up_n _ _ _ _ _ _ (by omega)).trans (t3.1 b z p), t3.2⟩, (up_n _ _ _ _ _ _ (by omega)).trans (a3 2), (up_n _ _ _ _ _ _ (by omega)).trans (a3 3), up_s _ _ _ _⟩
  · rw [fX2_init, e1, e2, e3, k_sI o3 4 (-1)]
    rfl
  · rw [show c.2.2.1 + 1 = c1.2.2.1 by omega]; exact s3.2.2.2.1 _ _ _ s2.2.1
  · rw [show c.2.2.1 + 2 = c2.2.2.1 by omega]; exact s3.2.1
  · rw [show c.2.2.1 + 1 = c1.2.2.1 by omega]; exact s3.p (by omega) (by omega) s2.2.2.1
  · rw [show c.2.2.1 + 2 = c2.2.2.1 by omega]; exact s3.2.2.1
/-- the rows of the solver's table -/
theorem k_nM {ci : Nat} (h : okc c a ci m) (hz : c.2.2.1 < 900000) (j : Nat) (A : AI) (J : JI) : ∃ (c' : CC) (A' : AI) (J' : JI), (∀ k : AS → Option AR, nM (CW c A J) 11 501 (fun q s => sR s a ci j q k) = k (CW c' A' J')) ∧ ((c'.2.2.1 = c.2.2.1 + 12 ∧ c'.2.2.2.1 = c.2.2.2.1 + 12 ∧ c'.2.2.2.2 = c.2.2.2.2 + 5522) ∧ okc c' c.2.2.1 110 11 ∧ ptr c' a j c.2.2.1 ∧ (∀ b u m, okc c b u m → okc c' b u m) ∧ (∀ b i, b < c.2.2.1 → ¬ (b = a ∧ i = j) → c'.1 b i = c.1 b i) ∧ oth c A A' J J') ∧ ∀ p : Int, 0 ≤ p → p < 11 → ptr c' c.2.2.1 p.toNat (c.2.2.1 + 1 + p.toNat) ∧ okc c' (c.2.2.1 + 1 + p.toNat) 100 501 := by
  obtain ⟨P, H, z, nc, ns⟩ := c
  dsimp only at h hz ⊢
  have hw : ax_newM (CW (P, H, z, nc, ns) A J) 11 501 = CW (fun a b => if a = z then (if b < 11 then some (z + 1 + b) else none) else if z ≤ a ∧ a ≤ z + 11 then none else P a b, fun a => if a = z then (110, 11) else if z ≤ a ∧ a ≤ z + 11 then (100, 501) else H a, z + 1 + 11, nc + 1 + 11, ns + 11 + 11 * 501) (fun b y => if z ≤ b ∧ b ≤ z + 11 then 0 else A b y) (fun b y => if z ≤ b ∧ b ≤ z + 11 then 0 else J b y) := by
    have e : (fun (a b : Nat) => if z ≤ a ∧ a ≤ z + 11 then (0 : Int32) else IW A a b) = IW (fun b y => if z ≤ b ∧ b ≤ z + 11 then 0 else A b y) := by
      funext a b
      show (if z ≤ a ∧ a ≤ z + 11 then (0 : Int32) else ii (A a (b : Int))) = ii (if z ≤ a ∧ a ≤ z + 11 then 0 else A a (b : Int))
      by_cases q : z ≤ a ∧ a ≤ z + 11
      · rw [if_pos q, if_pos q]
        rfl
      · rw [if_neg q, if_neg q]
    show ((fun (a b : Nat) => if z ≤ a ∧ a ≤ z + 11 then (0 : Int32) else IW A a b), _) = (IW (fun b y => if z ≤ b ∧ b ≤ z + 11 then 0 else A b y), _)
    rw [e]
    rfl
  have ho : ∀ b u m, okc (P, H, z, nc, ns) b u m → okc (fun a b => if a = z then (if b < 11 then some (z + 1 + b) else none) else if z ≤ a ∧ a ≤ z + 11 then none else P a b, fun a => if a = z then (110, 11) else if z ≤ a ∧ a ≤ z + 11 then (100, 501) else H a, z + 1 + 11, nc + 1 + 11, ns + 11 + 11 * 501) b u m := fun b u m o => by
    have o1 : b < z := o.1
    exact ⟨by show b < z + 1 + 11; omega, by
      show (if b = z then (110, 11) else if z ≤ b ∧ b ≤ z + 11 then (100, 501) else H b) = _
      rw [if_neg (by omega), if_neg (by omega)]; exact o.2⟩
  have ha : a < z := h.1
  refine ⟨ptC (fun a b => if a = z then (if b < 11 then some (z + 1 + b) else none) else if z ≤ a ∧ a ≤ z + 11 then none else P a b, fun a => if a = z then (110, 11) else if z ≤ a ∧ a ≤ z + 11 then (100, 501) else H a, z + 1 + 11, nc + 1 + 11, ns + 11 + 11 * 501) a j z, fun b y => if z ≤ b ∧ b ≤ z + 11 then 0 else A b y, fun b y => if z ≤ b ∧ b ≤ z + 11 then 0 else J b y, fun k => ?_, ⟨⟨rfl, rfl, rfl⟩, ⟨by show z < z + 1 + 11; omega, if_pos rfl⟩, ax_up2_s _ _ _ _, fun b u m o => okc_pt (ho b u m o) _ _ _, fun b i hb hn => ?_, fun b y hb => if_neg (by have hb : b < z := hb; omega), fun b y hb => if_neg (by have hb : b < z := hb; omega)⟩, fun p p0 p1 => ⟨?_, ?_⟩⟩
  · refine (if_pos ⟨rfl, rfl, hz⟩).trans ?_
    rw [hw]
    exact k_sR (ho _ _ _ h) k
  · have hb : b < z := hb
    refine (ax_up2_n _ _ hn).trans ?_
    show (if b = z then (if i < 11 then some (z + 1 + i) else none) else if z ≤ b ∧ b ≤ z + 11 then none else P b i) = P b i
    rw [if_neg (by omega), if_neg (by omega)]
  · refine (ax_up2_n _ _ (by omega)).trans ?_
    show (if z = z then (if p.toNat < 11 then some (z + 1 + p.toNat) else none) else if z ≤ z ∧ z ≤ z + 11 then none else P z p.toNat) = some (z + 1 + p.toNat)
    rw [if_pos rfl, if_pos (by omega)]
  · exact okc_pt ⟨by show z + 1 + p.toNat < z + 1 + 11; omega, by
      show (if z + 1 + p.toNat = z then (110, 11) else if z ≤ z + 1 + p.toNat ∧ z + 1 + p.toNat ≤ z + 11 then (100, 501) else H _) = _
      rw [if_neg (by omega), if_pos (by omega)]⟩ _ _ _
/-- a new solver -/
theorem i_solver (hz : c.2.2.1 < 800000) (A : AI) (J : JI) : ∃ (c' : CC) (A' : AI) (J' : JI), (∀ k : Nat → AS → Option AR, nO (CW c A J) 8 8 (fun q s => cS s (fX4_init q s) (qV (k q))) = k c.2.2.1 (CW c' A' J')) ∧ isSolver c' c.2.2.1 ∧ exc c c' ∧ (c'.2.2.1 = c.2.2.1 + 17 ∧ c'.2.2.2.1 = c.2.2.2.1 + 17 ∧ c'.2.2.2.2 = c.2.2.2.2 + 6552) ∧ oth c A A' J J' := by
  have o0 := nw_o (c := c) 8 8
  have x0 : exc c (nwC c 8 8) := exc.new _ _ _
  have t0 := oth.nw (c := c) (A := A) (J := J) 8 8
  have z0 : (nwC c 8 8).2.2.1 = c.2.2.1 + 1 ∧ (nwC c 8 8).2.2.2.1 = c.2.2.2.1 + 1 ∧ (nwC c 8 8).2.2.2.2 = c.2.2.2.2 + 8 := ⟨rfl, rfl, rfl⟩
  have hob := fun c' A' J' => i_obj (c := c) (A := A) (J := J) (c' := c') (A' := A') (J' := J') (ci := 8) (n := 8) (F := fX4_init) (by omega)
  generalize nwC c 8 8 = c1 at o0 x0 z0 hob
  generalize nwA c A = A1 at t0 hob
  generalize nwJ c J = J1 at t0 hob
  obtain ⟨c2, A2, J2, e2, ⟨y2, v1, v2, v3, v4, v5⟩, v6⟩ := k_nM o0 (by omega) 0 A1 J1
  have x2 : exc c c2 := by
    refine ⟨by omega, fun b p => ?_, fun b i p => ?_⟩
    · have o : okc c1 b (c1.2.1 b).1 (c1.2.1 b).2 := ⟨by omega, rfl⟩
      rw [(v3 _ _ _ o).2]
      exact x0.2.1 b p
    · rw [v4 b i (by omega) (by omega)]
      exact x0.2.2 b i p
  have o2 := v3 _ _ _ o0
  obtain ⟨c3, A3, J3, e3, s3⟩ := k_step (n := 501) (x := 501) o2 (by omega) (by decide) 100 1 A2 J2
  have y3 := s3.1
  obtain ⟨c4, A4, J4, e4, s4⟩ := k_step (n := 501) (x := 501) (s3.2.2.2.1 _ _ _ o2) (by omega) (by decide) 100 2 A3 J3
  have y4 := s4.1
  obtain ⟨c5, A5, J5, e5, s5⟩ := k_step (n := 10) (x := 10) (s4.2.2.2.1 _ _ _ (s3.2.2.2.1 _ _ _ o2)) (by omega) (by decide) 100 3 A4 J4
  have y5 := s5.1
  obtain ⟨c6, A6, J6, e6, s6⟩ := k_step (n := 10) (x := 10) (s5.2.2.2.1 _ _ _ (s4.2.2.2.1 _ _ _ (s3.2.2.2.1 _ _ _ o2))) (by omega) (by decide) 100 4 A5 J5
  have y6 := s6.1
  have ok6 : ∀ b u m, okc c2 b u m → okc c6 b u m := fun b u m o => s6.2.2.2.1 _ _ _ (s5.2.2.2.1 _ _ _ (s4.2.2.2.1 _ _ _ (s3.2.2.2.1 _ _ _ o)))
  have pt6 : ∀ b i q, b < c2.2.2.1 → ¬ (b = c.2.2.1 ∧ 1 ≤ i ∧ i ≤ 4) → ptr c2 b i q → ptr c6 b i q := fun b i q hb hn p => s6.p (by omega) (by omega) (s5.p (by omega) (by omega) (s4.p (by omega) (by omega) (s3.p (by omega) (by omega) p)))
  refine ⟨c6, A6, J6, fun k => hob c6 A6 J6 ?_ (by omega) k, ⟨⟨ok6 _ _ _ o2, ?_, ?_, ?_, ?_, ?_⟩, ⟨?_, ?_, ?_, ?_, ?_⟩, fun p p0 p1 => ⟨?_, ?_⟩⟩, s6.x (s5.x (s4.x (s3.x x2 (Nat.le_refl _)) (Nat.le_refl _)) (Nat.le_refl _)) (Nat.le_refl _), by omega, ((((t0.trans v5 (by omega)).stp s3 (by omega)).stp s4 (by omega)).stp s5 (by omega)).stp s6 (by omega)⟩
  · rw [fX4_init, e2, e3, e4, e5, e6]
  · rw [show c.2.2.1 + 1 = c1.2.2.1 by omega]; exact ok6 _ _ _ v1
  · rw [show c.2.2.1 + 13 = c2.2.2.1 by omega]; exact s6.2.2.2.1 _ _ _ (s5.2.2.2.1 _ _ _ (s4.2.2.2.1 _ _ _ s3.2.1))
  · rw [show c.2.2.1 + 14 = c3.2.2.1 by omega]; exact s6.2.2.2.1 _ _ _ (s5.2.2.2.1 _ _ _ s4.2.1)
  · rw [show c.2.2.1 + 15 = c4.2.2.1 by omega]; exact s6.2.2.2.1 _ _ _ s5.2.1
  · rw [show c.2.2.1 + 16 = c5.2.2.1 by omega]; exact s6.2.1
  · rw [show c.2.2.1 + 1 = c1.2.2.1 by omega]; exact pt6 _ _ _ (by omega) (by omega) v2
  · rw [show c.2.2.1 + 13 = c2.2.2.1 by omega]; exact s6.p (by omega) (by omega) (s5.p (by omega) (by omega) (s4.p (by omega) (by omega) s3.2.2.1))
  · rw [show c.2.2.1 + 14 = c3.2.2.1 by omega]; exact s6.p (by omega) (by omega) (s5.p (by omega) (by omega) s4.2.2.1)
  · rw [show c.2.2.1 + 15 = c4.2.2.1 by omega]; exact s6.p (by omega) (by omega) s5.2.2.1
  · rw [show c.2.2.1 + 16 = c5.2.2.1 by omega]; exact s6.2.2.1
  · rw [show c.2.2.1 + 1 = c1.2.2.1 by omega, show fr c.2.2.1 p = c1.2.2.1 + 1 + p.toNat by unfold fr; omega]
    exact pt6 _ _ _ (by omega) (by omega) (v6 p p0 p1).1
  · rw [show fr c.2.2.1 p = c1.2.2.1 + 1 + p.toNat by unfold fr; omega]
    exact ok6 _ _ _ (v6 p p0 p1).2
/-- a new StringBuilder -/
theorem i_sb (hz : c.2.2.1 < 800000) (A : AI) (J : JI) : ∃ (c' : CC) (A' : AI) (J' : JI), (∀ k : Nat → AS → Option AR, nO (CW c A J) 1 4 (fun q s => cS s (fJ4_init_da8c8 q s) (qV (k q))) = k c.2.2.1 (CW c' A' J')) ∧ (okc c' c.2.2.1 1 4 ∧ ptr c' c.2.2.1 0 (c.2.2.1 + 1) ∧ okc c' (c.2.2.1 + 1) 103 16) ∧ exc c c' ∧ (c'.2.2.1 = c.2.2.1 + 2 ∧ c'.2.2.2.1 = c.2.2.2.1 + 2 ∧ c'.2.2.2.2 = c.2.2.2.2 + 20) ∧ oth c A A' J J' ∧ (∀ z, A' c.2.2.1 z = 0) ∧ ∀ z, A' (c.2.2.1 + 1) z = 0 := by
  have o0 := nw_o (c := c) 1 4
  have x0 : exc c (nwC c 1 4) := exc.new _ _ _
  have t0 := oth.nw (c := c) (A := A) (J := J) 1 4
  have z0 : (nwC c 1 4).2.2.1 = c.2.2.1 + 1 ∧ (nwC c 1 4).2.2.2.1 = c.2.2.2.1 + 1 ∧ (nwC c 1 4).2.2.2.2 = c.2.2.2.2 + 4 := ⟨rfl, rfl, rfl⟩
  have a0 : ∀ z, nwA c A c.2.2.1 z = 0 := nw_A
  have hob := fun c' A' J' => i_obj (c := c) (A := A) (J := J) (c' := c') (A' := A') (J' := J') (ci := 1) (n := 4) (F := fJ4_init_da8c8) (by omega)
  generalize nwC c 1 4 = c1 at o0 x0 z0 hob
  generalize nwA c A = A1 at t0 hob a0
  generalize nwJ c J = J1 at t0 hob
  obtain ⟨c2, A2, J2, e2, s2⟩ := k_step (n := 16) (x := 16) o0 (by omega) (by decide) 103 0 A1 J1
  have y2 := s2.1
  have o2 : okc c2 c.2.2.1 1 4 := s2.2.2.2.1 _ _ _ o0
  have t2 : oth c A A2 J J2 := t0.stp s2 (by omega)
  have a2 : ∀ z, A2 c.2.2.1 z = 0 := fun z => (s2.2.2.2.2.2.1 _ z (by omega)).trans (a0 z)
  have eu : ∀ (b : Nat) (z : Int), up A2 c.2.2.1 1 0 b z = A2 b z := fun b z => by
    by_cases h : b = c.2.2.1 ∧ z = 1
    · rw [h.1, h.2, up_s, a2]
    · exact up_n _ _ _ _ _ _ h
  have eu2 : up A2 c.2.2.1 1 0 = A2 := funext fun b => funext fun z => eu b z
  have e1 : (0 : Int32) = ii 0 := rfl
  refine ⟨c2, A2, J2, fun k => hob c2 A2 J2 ?_ (by omega) k, ⟨o2, ?_, ?_⟩, s2.x x0 (Nat.le_refl _), by omega, t2, a2, ?_⟩
  · have ef : fJ5_init_d00df c.2.2.1 16 (CW c1 A1 J1) = some (Sum.inl none, CW c2 A2 J2) := by
      rw [fJ5_init_d00df, if_neg (by decide), e2]
      refine (if_pos ⟨⟨o2.1, by rw [show ax_H (CW c2 A2 J2) c.2.2.1 = c2.2.1 c.2.2.1 from rfl, o2.2]⟩, by decide⟩).trans ?_
      have := cUp (c := c2) (A := A2) (J := J2) c.2.2.1 1 0 (by omega)
      rw [show (ii 1).toNatClampNeg = 1 by decide] at this
      rw [e1, this, eu2]
    rw [fJ4_init_da8c8, ef, k_Cl (c := c1) (c' := c2) (by omega), q_V]
  · rw [show c.2.2.1 + 1 = c1.2.2.1 by omega]; exact s2.2.2.1
  · rw [show c.2.2.1 + 1 = c1.2.2.1 by omega]; exact s2.2.1
  · rw [show c.2.2.1 + 1 = c1.2.2.1 by omega]; exact s2.2.2.2.2.2.2.1
end ISP
