/-! THE START: the class's constructor -/
def e0C : CC := (fun _ _ => none, fun _ => (0, 0), 0, 0, 0)
section ICI
variable {c c' : CC} {A A' : AI} {J J' : JI} {X b i p : Nat}
theorem ptC_s (c : CC) (a j q : Nat) : ptr (ptC c a j q) a j q := ax_up2_s _ _ _ _
theorem isSolver.pt2 (h : isSolver c X) (b i p : Nat) (hb : X + 17 ≤ b) : isSolver (ptC c b i p) X := ⟨h.1, ⟨ptr_pt h.2.1.1 _ _ _ (by omega), ptr_pt h.2.1.2.1 _ _ _ (by omega), ptr_pt h.2.1.2.2.1 _ _ _ (by omega), ptr_pt h.2.1.2.2.2.1 _ _ _ (by omega), ptr_pt h.2.1.2.2.2.2 _ _ _ (by omega)⟩, fun r a d => ⟨ptr_pt (h.2.2 r a d).1 _ _ _ (by omega), (h.2.2 r a d).2⟩⟩
theorem isHist.pt2 (h : isHist c X) (b i p : Nat) (hb : X + 282 ≤ b) : isHist (ptC c b i p) X := ⟨h.1, ptr_pt h.2.1 _ _ _ (by omega), fun r a d => ⟨ptr_pt (h.2.2 r a d).1 _ _ _ (by omega), (h.2.2 r a d).2.pt2 _ _ _ (by unfold hs; omega)⟩⟩
/-- the class's object: it, and what its fields hold so far -/
def lkP (c : CC) (L : List (Nat × Nat)) : Prop := okc c 0 10 11 ∧ ∀ q ∈ L, ptr c 0 q.1 q.2
theorem lkP.obj {L : List (Nat × Nat)} (h : lkP c L) (x : exc c c') (j : Nat) (hj : ∀ q ∈ L, q.1 ≠ j) : lkP (ptC c' 0 j c.2.2.1) ((j, c.2.2.1) :: L) := by
  refine ⟨okc_pt (okc_x h.1 x) _ _ _, fun q hq => ?_⟩
  rcases List.mem_cons.mp hq with rfl | hq
  · exact ax_up2_s _ _ _ _
  · exact ptr_pt (ptr_x h.1 (h.2 q hq) x) _ _ _ (fun e => hj q hq e.2)
theorem lkP.x {L : List (Nat × Nat)} (h : lkP c L) (x : exc c c') (b i p : Nat) (hb : b ≠ 0) : lkP (ptC c' b i p) L := ⟨okc_pt (okc_x h.1 x) _ _ _, fun q hq => ptr_pt (ptr_x h.1 (h.2 q hq) x) _ _ _ (by omega)⟩
theorem s_obj {ci n : Nat} {F : Nat → AS → Option AR} (o0 : okc c 0 10 11) (x : exc c c') (j : Nat) (ob : ∀ k : Nat → AS → Option AR, nO (CW c A J) ci n (fun q s => cS s (F q s) (qV (k q))) = k c.2.2.1 (CW c' A' J')) (k : AS → Option AR) : nO (CW c A J) ci n (fun q s => cS s (F q s) (qV (fun s3 => sR s3 0 10 j q k))) = k (CW (ptC c' 0 j c.2.2.1) A' J') :=
  (ob (fun q s3 => sR s3 0 10 j q k)).trans (k_sR (okc_x o0 x) k)
theorem s_arr {t n : Nat} {x : Int32} (o0 : okc c 0 10 11) (j : Nat) (hz : c.2.2.1 < 1000000) (hi : x.toNatClampNeg = n ∧ ¬ x < 0 ∧ n ≤ 100000) (k : AS → Option AR) : nA (CW c A J) t x (fun q s => sR s 0 10 j q k) = k (CW (ptC (nwC c t n) 0 j c.2.2.1) (nwA c A) (nwJ c J)) := by
  rw [k_nA _ hz hi, k_sR (okc_x o0 (exc.new _ _ _))]
theorem s_109 (m : Nat) (o0 : okc c 0 10 11) (hp : ptr c 0 5 373) (oq : okc c 373 112 2) (z : Int) (hz : (0 ≤ z ∧ z < 2)) (x : exc c c') (hst : isState c' c.2.2.1) (ob : ∀ k : Nat → AS → Option AR, nO (CW c A J) 9 8 (fun q s => cS s (fX5_init q s) (qV (k q))) = k c.2.2.1 (CW c' A' J')) : fX6_init_109 (m + 1) 0 (ii z) (CW c A J) = fX6_init_109 m 0 (ii (z + 1)) (CW (ptC c' 373 z.toNat c.2.2.1) A' J') := by
  rw [fX6_init_109, il1, il2, if_neg (by rw [ii_le _ _ (by omega)]; omega), k_gR o0 hp, ob, k_uR (okc_x oq x) hst.1.1 z (by omega), ii_add, lt_q]
theorem s_109e (m : Nat) (W : AS) : fX6_init_109 (m + 1) 0 (ii 2) W = some (Sum.inl none, W) := by
  rw [fX6_init_109, il2, if_pos (Int32.le_refl _)]
end ICI
set_option maxHeartbeats 4000000 in
/-- what the constructor leaves -/
theorem c_init : ∃ (c : CC) (A : AI) (J : JI), fX6_init 0 (CW (nwC e0C 10 11) (nwA e0C (fun _ _ => 0)) (nwJ e0C (fun _ _ => 0))) = some (Sum.inl none, CW c A J) ∧ lkP c [(9, 381), (8, 377), (7, 375), (6, 374), (5, 373), (4, 338), (3, 303), (2, 21), (1, 4), (0, 1)] ∧ (isReader c 1 ∧ isSolver c 4 ∧ isHist c 21 ∧ isState c 303 ∧ isState c 338 ∧ isState c 385 ∧ isState c 420) ∧ (okc c 373 112 2 ∧ ptr c 373 0 385 ∧ ptr c 373 1 420 ∧ okc c 374 101 2) ∧ (isPlan c 377 ∧ isPlan c 381) ∧ (okc c 375 1 4 ∧ ptr c 375 0 376 ∧ okc c 376 103 16) ∧ (c.2.2.1 = 455 ∧ 1 ≤ c.2.2.2.1 ∧ c.2.2.2.1 ≤ 1000 ∧ 11 ≤ c.2.2.2.2 ∧ c.2.2.2.2 ≤ 100000) ∧ (∀ z, A 0 z = 0) ∧ (A 1 2 = 0 ∧ A 1 3 = 0 ∧ A 1 4 = -1) ∧ (∀ z, A 21 z = 0) ∧ (∀ z, A 374 z = 0) ∧ (∀ z, A 375 z = 0) ∧ ∀ z, A 376 z = 0 := by
  have hP0 : lkP (nwC e0C 10 11) [] := ⟨nw_o (c := e0C) 10 11, fun _ h => absurd h List.not_mem_nil⟩
  have fo : ∀ z, nwA e0C (fun _ _ => 0) 0 z = 0 := fun z => rfl
  have y0 : (nwC e0C 10 11).2.2.1 = 1 ∧ (nwC e0C 10 11).2.2.2.1 = 1 ∧ (nwC e0C 10 11).2.2.2.2 = 11 := ⟨rfl, rfl, rfl⟩
  generalize nwC e0C 10 11 = c0 at hP0 y0 ⊢
  generalize nwA e0C (fun _ _ => 0) = A0 at fo ⊢
  generalize nwJ e0C (fun _ _ => 0) = J0 at ⊢
  obtain ⟨d1, A1, J1, g1, b1, x1, q1, t1, r1, r2, r3⟩ := i_reader (c := c0) (by omega) A0 J0
  have e1 := s_obj hP0.1 x1 0 g1
  have z1 : c0.2.2.1 = 1 := by omega
  have hP1 := hP0.obj x1 0 (by decide)
  rw [z1] at e1 b1 r1 r2 r3 hP1
  have kR := b1.pt 0 0 1 (by omega)
  have fo : ∀ z, A1 0 z = 0 := fun z => (t1.1 0 z (by omega)).trans (fo z)
  have fr : A1 1 2 = 0 ∧ A1 1 3 = 0 ∧ A1 1 4 = -1 := ⟨r1, r2, r3⟩
  have y1 : (ptC d1 0 0 1).2.2.1 = d1.2.2.1 ∧ (ptC d1 0 0 1).2.2.2.1 = d1.2.2.2.1 ∧ (ptC d1 0 0 1).2.2.2.2 = d1.2.2.2.2 := ⟨rfl, rfl, rfl⟩
  generalize ptC d1 0 0 1 = c1 at hP1 y1 e1 kR
  obtain ⟨d2, A2, J2, g2, b2, x2, q2, t2⟩ := i_solver (c := c1) (by omega) A1 J1
  have e2 := s_obj hP1.1 x2 1 g2
  have z2 : c1.2.2.1 = 4 := by omega
  have hP2 := hP1.obj x2 1 (by decide)
  rw [z2] at e2 b2 hP2
  have kR := (kR.x x2).pt 0 1 4 (by omega)
  have kS := b2.pt 0 1 4 (by omega)
  have fo : ∀ z, A2 0 z = 0 := fun z => (t2.1 0 z (by omega)).trans (fo z)
  have fr : A2 1 2 = 0 ∧ A2 1 3 = 0 ∧ A2 1 4 = -1 := ⟨(t2.1 1 2 (by omega)).trans fr.1, (t2.1 1 3 (by omega)).trans fr.2.1, (t2.1 1 4 (by omega)).trans fr.2.2⟩
  have y2 : (ptC d2 0 1 4).2.2.1 = d2.2.2.1 ∧ (ptC d2 0 1 4).2.2.2.1 = d2.2.2.2.1 ∧ (ptC d2 0 1 4).2.2.2.2 = d2.2.2.2.2 := ⟨rfl, rfl, rfl⟩
  generalize ptC d2 0 1 4 = c2 at hP2 y2 e2 kR kS
  obtain ⟨d3, A3, J3, g3, b3, x3, q3, t3, a3⟩ := i_hist (c := c2) (by omega) A2 J2
  have e3 := s_obj hP2.1 x3 2 g3
  have z3 : c2.2.2.1 = 21 := by omega
  have hP3 := hP2.obj x3 2 (by decide)
  rw [z3] at e3 b3 a3 hP3
  have kR := (kR.x x3).pt 0 2 21 (by omega)
  have kS := (kS.x x3).pt 0 2 21 (by omega)
  have kH := b3.pt 0 2 21 (by omega)
  have fo : ∀ z, A3 0 z = 0 := fun z => (t3.1 0 z (by omega)).trans (fo z)
  have fr : A3 1 2 = 0 ∧ A3 1 3 = 0 ∧ A3 1 4 = -1 := ⟨(t3.1 1 2 (by omega)).trans fr.1, (t3.1 1 3 (by omega)).trans fr.2.1, (t3.1 1 4 (by omega)).trans fr.2.2⟩
  have fh : ∀ z, A3 21 z = 0 := a3
  have y3 : (ptC d3 0 2 21).2.2.1 = d3.2.2.1 ∧ (ptC d3 0 2 21).2.2.2.1 = d3.2.2.2.1 ∧ (ptC d3 0 2 21).2.2.2.2 = d3.2.2.2.2 := ⟨rfl, rfl, rfl⟩
  generalize ptC d3 0 2 21 = c3 at hP3 y3 e3 kR kS kH
  obtain ⟨d4, A4, J4, g4, b4, x4, q4, u4, v4⟩ := i_state (c := c3) (A := A3) (J := J3) (by omega)
  have t4 : oth c3 A3 A4 J3 J4 := ⟨u4, v4⟩
  have e4 := s_obj hP3.1 x4 3 g4
  have z4 : c3.2.2.1 = 303 := by omega
  have hP4 := hP3.obj x4 3 (by decide)
  rw [z4] at e4 b4 hP4
  have kR := (kR.x x4).pt 0 3 303 (by omega)
  have kS := (kS.x x4).pt 0 3 303 (by omega)
  have kH := (kH.x x4).pt 0 3 303 (by omega)
  have kT303 := b4.pt 0 3 303 (by omega)
  have fo : ∀ z, A4 0 z = 0 := fun z => (t4.1 0 z (by omega)).trans (fo z)
  have fr : A4 1 2 = 0 ∧ A4 1 3 = 0 ∧ A4 1 4 = -1 := ⟨(t4.1 1 2 (by omega)).trans fr.1, (t4.1 1 3 (by omega)).trans fr.2.1, (t4.1 1 4 (by omega)).trans fr.2.2⟩
  have fh : ∀ z, A4 21 z = 0 := fun z => (t4.1 21 z (by omega)).trans (fh z)
  have y4 : (ptC d4 0 3 303).2.2.1 = d4.2.2.1 ∧ (ptC d4 0 3 303).2.2.2.1 = d4.2.2.2.1 ∧ (ptC d4 0 3 303).2.2.2.2 = d4.2.2.2.2 := ⟨rfl, rfl, rfl⟩
  generalize ptC d4 0 3 303 = c4 at hP4 y4 e4 kR kS kH kT303
  obtain ⟨d5, A5, J5, g5, b5, x5, q5, u5, v5⟩ := i_state (c := c4) (A := A4) (J := J4) (by omega)
  have t5 : oth c4 A4 A5 J4 J5 := ⟨u5, v5⟩
  have e5 := s_obj hP4.1 x5 4 g5
  have z5 : c4.2.2.1 = 338 := by omega
  have hP5 := hP4.obj x5 4 (by decide)
  rw [z5] at e5 b5 hP5
  have kR := (kR.x x5).pt 0 4 338 (by omega)
  have kS := (kS.x x5).pt 0 4 338 (by omega)
  have kH := (kH.x x5).pt 0 4 338 (by omega)
  have kT303 := (kT303.x x5).pt 0 4 338 (by omega)
  have kT338 := b5.pt 0 4 338 (by omega)
  have fo : ∀ z, A5 0 z = 0 := fun z => (t5.1 0 z (by omega)).trans (fo z)
  have fr : A5 1 2 = 0 ∧ A5 1 3 = 0 ∧ A5 1 4 = -1 := ⟨(t5.1 1 2 (by omega)).trans fr.1, (t5.1 1 3 (by omega)).trans fr.2.1, (t5.1 1 4 (by omega)).trans fr.2.2⟩
  have fh : ∀ z, A5 21 z = 0 := fun z => (t5.1 21 z (by omega)).trans (fh z)
  have y5 : (ptC d5 0 4 338).2.2.1 = d5.2.2.1 ∧ (ptC d5 0 4 338).2.2.2.1 = d5.2.2.2.1 ∧ (ptC d5 0 4 338).2.2.2.2 = d5.2.2.2.2 := ⟨rfl, rfl, rfl⟩
  generalize ptC d5 0 4 338 = c5 at hP5 y5 e5 kR kS kH kT303 kT338
  have x6 : exc c5 (nwC c5 112 2) := exc.new _ _ _
  have t6 : oth c5 A5 (nwA c5 A5) J5 (nwJ c5 J5) := oth.nw 112 2
  have q6 : (nwC c5 112 2).2.2.1 = c5.2.2.1 + 1 ∧ (nwC c5 112 2).2.2.2.1 = c5.2.2.2.1 + 1 ∧ (nwC c5 112 2).2.2.2.2 = c5.2.2.2.2 + 2 := ⟨rfl, rfl, rfl⟩
  have b6 : okc (nwC c5 112 2) c5.2.2.1 112 2 := nw_o _ _
  have a6 : ∀ z, nwA c5 A5 c5.2.2.1 z = 0 := nw_A
  have e6 := fun k => s_arr (A := A5) (J := J5) (t := 112) (n := 2) (x := 2) hP5.1 5 (by omega) (by decide) k
  generalize nwC c5 112 2 = d6 at x6 q6 b6 e6
  generalize nwA c5 A5 = A6 at t6 a6 e6
  generalize nwJ c5 J5 = J6 at t6 e6
  have z6 : c5.2.2.1 = 373 := by omega
  have hP6 := hP5.obj x6 5 (by decide)
  rw [z6] at e6 b6 hP6
  have kR := (kR.x x6).pt 0 5 373 (by omega)
  have kS := (kS.x x6).pt 0 5 373 (by omega)
  have kH := (kH.x x6).pt 0 5 373 (by omega)
  have kT303 := (kT303.x x6).pt 0 5 373 (by omega)
  have kT338 := (kT338.x x6).pt 0 5 373 (by omega)
  have k373 := okc_pt b6 0 5 373
  have fo : ∀ z, A6 0 z = 0 := fun z => (t6.1 0 z (by omega)).trans (fo z)
  have fr : A6 1 2 = 0 ∧ A6 1 3 = 0 ∧ A6 1 4 = -1 := ⟨(t6.1 1 2 (by omega)).trans fr.1, (t6.1 1 3 (by omega)).trans fr.2.1, (t6.1 1 4 (by omega)).trans fr.2.2⟩
  have fh : ∀ z, A6 21 z = 0 := fun z => (t6.1 21 z (by omega)).trans (fh z)
  have y6 : (ptC d6 0 5 373).2.2.1 = d6.2.2.1 ∧ (ptC d6 0 5 373).2.2.2.1 = d6.2.2.2.1 ∧ (ptC d6 0 5 373).2.2.2.2 = d6.2.2.2.2 := ⟨rfl, rfl, rfl⟩
  generalize ptC d6 0 5 373 = c6 at hP6 y6 e6 kR kS kH kT303 kT338 k373
  have x7 : exc c6 (nwC c6 101 2) := exc.new _ _ _
  have t7 : oth c6 A6 (nwA c6 A6) J6 (nwJ c6 J6) := oth.nw 101 2
  have q7 : (nwC c6 101 2).2.2.1 = c6.2.2.1 + 1 ∧ (nwC c6 101 2).2.2.2.1 = c6.2.2.2.1 + 1 ∧ (nwC c6 101 2).2.2.2.2 = c6.2.2.2.2 + 2 := ⟨rfl, rfl, rfl⟩
  have b7 : okc (nwC c6 101 2) c6.2.2.1 101 2 := nw_o _ _
  have a7 : ∀ z, nwA c6 A6 c6.2.2.1 z = 0 := nw_A
  have e7 := fun k => s_arr (A := A6) (J := J6) (t := 101) (n := 2) (x := 2) hP6.1 6 (by omega) (by decide) k
  generalize nwC c6 101 2 = d7 at x7 q7 b7 e7
  generalize nwA c6 A6 = A7 at t7 a7 e7
  generalize nwJ c6 J6 = J7 at t7 e7
  have z7 : c6.2.2.1 = 374 := by omega
  have hP7 := hP6.obj x7 6 (by decide)
  rw [z7] at e7 b7 a7 hP7
  have kR := (kR.x x7).pt 0 6 374 (by omega)
  have kS := (kS.x x7).pt 0 6 374 (by omega)
  have kH := (kH.x x7).pt 0 6 374 (by omega)
  have kT303 := (kT303.x x7).pt 0 6 374 (by omega)
  have kT338 := (kT338.x x7).pt 0 6 374 (by omega)
  have k373 := okc_pt (okc_x k373 x7) 0 6 374
  have k374 := okc_pt b7 0 6 374
  have fo : ∀ z, A7 0 z = 0 := fun z => (t7.1 0 z (by omega)).trans (fo z)
  have fr : A7 1 2 = 0 ∧ A7 1 3 = 0 ∧ A7 1 4 = -1 := ⟨(t7.1 1 2 (by omega)).trans fr.1, (t7.1 1 3 (by omega)).trans fr.2.1, (t7.1 1 4 (by omega)).trans fr.2.2⟩
  have fh : ∀ z, A7 21 z = 0 := fun z => (t7.1 21 z (by omega)).trans (fh z)
  have fs : ∀ z, A7 374 z = 0 := a7
  have y7 : (ptC d7 0 6 374).2.2.1 = d7.2.2.1 ∧ (ptC d7 0 6 374).2.2.2.1 = d7.2.2.2.1 ∧ (ptC d7 0 6 374).2.2.2.2 = d7.2.2.2.2 := ⟨rfl, rfl, rfl⟩
  generalize ptC d7 0 6 374 = c7 at hP7 y7 e7 kR kS kH kT303 kT338 k373 k374
  obtain ⟨d8, A8, J8, g8, b8, x8, q8, t8, a8, w8⟩ := i_sb (c := c7) (by omega) A7 J7
  have e8 := s_obj hP7.1 x8 7 g8
  have z8 : c7.2.2.1 = 375 := by omega
  have hP8 := hP7.obj x8 7 (by decide)
  rw [z8] at e8 b8 a8 w8 hP8
  have kR := (kR.x x8).pt 0 7 375 (by omega)
  have kS := (kS.x x8).pt 0 7 375 (by omega)
  have kH := (kH.x x8).pt 0 7 375 (by omega)
  have kT303 := (kT303.x x8).pt 0 7 375 (by omega)
  have kT338 := (kT338.x x8).pt 0 7 375 (by omega)
  have k373 := okc_pt (okc_x k373 x8) 0 7 375
  have k374 := okc_pt (okc_x k374 x8) 0 7 375
  have kB := okc_pt b8.1 0 7 375
  have kV := okc_pt b8.2.2 0 7 375
  have kBp := ptr_pt b8.2.1 0 7 375 (by omega)
  have fo : ∀ z, A8 0 z = 0 := fun z => (t8.1 0 z (by omega)).trans (fo z)
  have fr : A8 1 2 = 0 ∧ A8 1 3 = 0 ∧ A8 1 4 = -1 := ⟨(t8.1 1 2 (by omega)).trans fr.1, (t8.1 1 3 (by omega)).trans fr.2.1, (t8.1 1 4 (by omega)).trans fr.2.2⟩
  have fh : ∀ z, A8 21 z = 0 := fun z => (t8.1 21 z (by omega)).trans (fh z)
  have fs : ∀ z, A8 374 z = 0 := fun z => (t8.1 374 z (by omega)).trans (fs z)
  have fb : ∀ z, A8 375 z = 0 := a8
  have fv : ∀ z, A8 376 z = 0 := w8
  have y8 : (ptC d8 0 7 375).2.2.1 = d8.2.2.1 ∧ (ptC d8 0 7 375).2.2.2.1 = d8.2.2.2.1 ∧ (ptC d8 0 7 375).2.2.2.2 = d8.2.2.2.2 := ⟨rfl, rfl, rfl⟩
  generalize ptC d8 0 7 375 = c8 at hP8 y8 e8 kBp kR kS kH kT303 kT338 k373 k374 kB kV
  obtain ⟨d9, A9, J9, g9, b9, x9, q9, t9⟩ := i_plan (c := c8) (by omega) A8 J8
  have e9 := s_obj hP8.1 x9 8 g9
  have z9 : c8.2.2.1 = 377 := by omega
  have hP9 := hP8.obj x9 8 (by decide)
  rw [z9] at e9 b9 hP9
  have kBp := ptr_pt (ptr_x kB kBp x9) 0 8 377 (by omega)
  have kR := (kR.x x9).pt 0 8 377 (by omega)
  have kS := (kS.x x9).pt 0 8 377 (by omega)
  have kH := (kH.x x9).pt 0 8 377 (by omega)
  have kT303 := (kT303.x x9).pt 0 8 377 (by omega)
  have kT338 := (kT338.x x9).pt 0 8 377 (by omega)
  have k373 := okc_pt (okc_x k373 x9) 0 8 377
  have k374 := okc_pt (okc_x k374 x9) 0 8 377
  have kB := okc_pt (okc_x kB x9) 0 8 377
  have kV := okc_pt (okc_x kV x9) 0 8 377
  have kP377 := b9.pt 0 8 377 (by omega)
  have fo : ∀ z, A9 0 z = 0 := fun z => (t9.1 0 z (by omega)).trans (fo z)
  have fr : A9 1 2 = 0 ∧ A9 1 3 = 0 ∧ A9 1 4 = -1 := ⟨(t9.1 1 2 (by omega)).trans fr.1, (t9.1 1 3 (by omega)).trans fr.2.1, (t9.1 1 4 (by omega)).trans fr.2.2⟩
  have fh : ∀ z, A9 21 z = 0 := fun z => (t9.1 21 z (by omega)).trans (fh z)
  have fs : ∀ z, A9 374 z = 0 := fun z => (t9.1 374 z (by omega)).trans (fs z)
  have fb : ∀ z, A9 375 z = 0 := fun z => (t9.1 375 z (by omega)).trans (fb z)
  have fv : ∀ z, A9 376 z = 0 := fun z => (t9.1 376 z (by omega)).trans (fv z)
  have y9 : (ptC d9 0 8 377).2.2.1 = d9.2.2.1 ∧ (ptC d9 0 8 377).2.2.2.1 = d9.2.2.2.1 ∧ (ptC d9 0 8 377).2.2.2.2 = d9.2.2.2.2 := ⟨rfl, rfl, rfl⟩
  generalize ptC d9 0 8 377 = c9 at hP9 y9 e9 kBp kR kS kH kT303 kT338 k373 k374 kB kV kP377
  obtain ⟨d10, A10, J10, g10, b10, x10, q10, t10⟩ := i_plan (c := c9) (by omega) A9 J9
  have e10 := s_obj hP9.1 x10 9 g10
  have z10 : c9.2.2.1 = 381 := by omega
  have hP10 := hP9.obj x10 9 (by decide)
  rw [z10] at e10 b10 hP10
  have kBp := ptr_pt (ptr_x kB kBp x10) 0 9 381 (by omega)
  have kR := (kR.x x10).pt 0 9 381 (by omega)
  have kS := (kS.x x10).pt 0 9 381 (by omega)
  have kH := (kH.x x10).pt 0 9 381 (by omega)
  have kT303 := (kT303.x x10).pt 0 9 381 (by omega)
  have kT338 := (kT338.x x10).pt 0 9 381 (by omega)
  have k373 := okc_pt (okc_x k373 x10) 0 9 381
  have k374 := okc_pt (okc_x k374 x10) 0 9 381
  have kB := okc_pt (okc_x kB x10) 0 9 381
  have kV := okc_pt (okc_x kV x10) 0 9 381
  have kP377 := (kP377.x x10).pt 0 9 381 (by omega)
  have kP381 := b10.pt 0 9 381 (by omega)
  have fo : ∀ z, A10 0 z = 0 := fun z => (t10.1 0 z (by omega)).trans (fo z)
  have fr : A10 1 2 = 0 ∧ A10 1 3 = 0 ∧ A10 1 4 = -1 := ⟨(t10.1 1 2 (by omega)).trans fr.1, (t10.1 1 3 (by omega)).trans fr.2.1, (t10.1 1 4 (by omega)).trans fr.2.2⟩
  have fh : ∀ z, A10 21 z = 0 := fun z => (t10.1 21 z (by omega)).trans (fh z)
  have fs : ∀ z, A10 374 z = 0 := fun z => (t10.1 374 z (by omega)).trans (fs z)
  have fb : ∀ z, A10 375 z = 0 := fun z => (t10.1 375 z (by omega)).trans (fb z)
  have fv : ∀ z, A10 376 z = 0 := fun z => (t10.1 376 z (by omega)).trans (fv z)
  have y10 : (ptC d10 0 9 381).2.2.1 = d10.2.2.1 ∧ (ptC d10 0 9 381).2.2.2.1 = d10.2.2.2.1 ∧ (ptC d10 0 9 381).2.2.2.2 = d10.2.2.2.2 := ⟨rfl, rfl, rfl⟩
  generalize ptC d10 0 9 381 = c10 at hP10 y10 e10 kBp kR kS kH kT303 kT338 k373 k374 kB kV kP377 kP381
  obtain ⟨d11, A11, J11, g11, b11, x11, q11, u11, v11⟩ := i_state (c := c10) (A := A10) (J := J10) (by omega)
  have t11 : oth c10 A10 A11 J10 J11 := ⟨u11, v11⟩
  have z11 : c10.2.2.1 = 385 := by omega
  have e11 := fun m => s_109 m hP10.1 (hP10.2 (5, 373) (by decide)) k373 0 (by omega) x11 b11 g11
  rw [z11] at e11 b11
  have hP11 := hP10.x x11 373 0 385 (by omega)
  have kBp := ptr_pt (ptr_x kB kBp x11) 373 0 385 (by omega)
  have kR := (kR.x x11).pt 373 0 385 (by omega)
  have kS := (kS.x x11).pt2 373 0 385 (by omega)
  have kH := (kH.x x11).pt2 373 0 385 (by omega)
  have kT303 := (kT303.x x11).pt2 373 0 385 (by omega)
  have kT338 := (kT338.x x11).pt2 373 0 385 (by omega)
  have k373 := okc_pt (okc_x k373 x11) 373 0 385
  have k374 := okc_pt (okc_x k374 x11) 373 0 385
  have kB := okc_pt (okc_x kB x11) 373 0 385
  have kV := okc_pt (okc_x kV x11) 373 0 385
  have kP377 := (kP377.x x11).pt 373 0 385 (by omega)
  have kP381 := (kP381.x x11).pt 373 0 385 (by omega)
  have kT385 := b11.pt 373 0 385 (by omega)
  have kq0 : ptr (ptC d11 373 0 385) 373 0 385 := ptC_s _ _ _ _
  have fo : ∀ z, A11 0 z = 0 := fun z => (t11.1 0 z (by omega)).trans (fo z)
  have fr : A11 1 2 = 0 ∧ A11 1 3 = 0 ∧ A11 1 4 = -1 := ⟨(t11.1 1 2 (by omega)).trans fr.1, (t11.1 1 3 (by omega)).trans fr.2.1, (t11.1 1 4 (by omega)).trans fr.2.2⟩
  have fh : ∀ z, A11 21 z = 0 := fun z => (t11.1 21 z (by omega)).trans (fh z)
  have fs : ∀ z, A11 374 z = 0 := fun z => (t11.1 374 z (by omega)).trans (fs z)
  have fb : ∀ z, A11 375 z = 0 := fun z => (t11.1 375 z (by omega)).trans (fb z)
  have fv : ∀ z, A11 376 z = 0 := fun z => (t11.1 376 z (by omega)).trans (fv z)
  have y11 : (ptC d11 373 0 385).2.2.1 = d11.2.2.1 ∧ (ptC d11 373 0 385).2.2.2.1 = d11.2.2.2.1 ∧ (ptC d11 373 0 385).2.2.2.2 = d11.2.2.2.2 := ⟨rfl, rfl, rfl⟩
  have e11 : ∀ m : Nat, fX6_init_109 (m + 1) 0 (ii 0) (CW c10 A10 J10) = fX6_init_109 m 0 (ii 1) (CW (ptC d11 373 0 385) A11 J11) := e11
  generalize ptC d11 373 0 385 = c11 at hP11 y11 e11 kq0 kBp kR kS kH kT303 kT338 k373 k374 kB kV kP377 kP381 kT385
  obtain ⟨d12, A12, J12, g12, b12, x12, q12, u12, v12⟩ := i_state (c := c11) (A := A11) (J := J11) (by omega)
  have t12 : oth c11 A11 A12 J11 J12 := ⟨u12, v12⟩
  have z12 : c11.2.2.1 = 420 := by omega
  have e12 := fun m => s_109 m hP11.1 (hP11.2 (5, 373) (by decide)) k373 1 (by omega) x12 b12 g12
  rw [z12] at e12 b12
  have hP12 := hP11.x x12 373 1 420 (by omega)
  have kq0 := ptr_pt (ptr_x k373 kq0 x12) 373 1 420 (by omega)
  have kBp := ptr_pt (ptr_x kB kBp x12) 373 1 420 (by omega)
  have kR := (kR.x x12).pt 373 1 420 (by omega)
  have kS := (kS.x x12).pt2 373 1 420 (by omega)
  have kH := (kH.x x12).pt2 373 1 420 (by omega)
  have kT303 := (kT303.x x12).pt2 373 1 420 (by omega)
  have kT338 := (kT338.x x12).pt2 373 1 420 (by omega)
  have k373 := okc_pt (okc_x k373 x12) 373 1 420
  have k374 := okc_pt (okc_x k374 x12) 373 1 420
  have kB := okc_pt (okc_x kB x12) 373 1 420
  have kV := okc_pt (okc_x kV x12) 373 1 420
  have kP377 := (kP377.x x12).pt 373 1 420 (by omega)
  have kP381 := (kP381.x x12).pt 373 1 420 (by omega)
  have kT385 := (kT385.x x12).pt 373 1 420 (by omega)
  have kT420 := b12.pt 373 1 420 (by omega)
  have kq1 : ptr (ptC d12 373 1 420) 373 1 420 := ptC_s _ _ _ _
  have fo : ∀ z, A12 0 z = 0 := fun z => (t12.1 0 z (by omega)).trans (fo z)
  have fr : A12 1 2 = 0 ∧ A12 1 3 = 0 ∧ A12 1 4 = -1 := ⟨(t12.1 1 2 (by omega)).trans fr.1, (t12.1 1 3 (by omega)).trans fr.2.1, (t12.1 1 4 (by omega)).trans fr.2.2⟩
  have fh : ∀ z, A12 21 z = 0 := fun z => (t12.1 21 z (by omega)).trans (fh z)
  have fs : ∀ z, A12 374 z = 0 := fun z => (t12.1 374 z (by omega)).trans (fs z)
  have fb : ∀ z, A12 375 z = 0 := fun z => (t12.1 375 z (by omega)).trans (fb z)
  have fv : ∀ z, A12 376 z = 0 := fun z => (t12.1 376 z (by omega)).trans (fv z)
  have y12 : (ptC d12 373 1 420).2.2.1 = d12.2.2.1 ∧ (ptC d12 373 1 420).2.2.2.1 = d12.2.2.2.1 ∧ (ptC d12 373 1 420).2.2.2.2 = d12.2.2.2.2 := ⟨rfl, rfl, rfl⟩
  have e12 : ∀ m : Nat, fX6_init_109 (m + 1) 0 (ii 1) (CW c11 A11 J11) = fX6_init_109 m 0 (ii 2) (CW (ptC d12 373 1 420) A12 J12) := e12
  generalize ptC d12 373 1 420 = c12 at hP12 y12 e12 kq1 kq0 kBp kR kS kH kT303 kT338 k373 k374 kB kV kP377 kP381 kT385 kT420
  refine ⟨c12, A12, J12, ?_, hP12, ⟨kR, kS, kH, kT303, kT338, kT385, kT420⟩, ⟨k373, kq0, kq1, k374⟩, ⟨kP377, kP381⟩, ⟨kB, kBp, kV⟩, by omega, fo, fr, fh, fs, fb, fv⟩
  obtain ⟨m, hm⟩ : ∃ m, FU = m + 3 := ⟨99999997, rfl⟩
  rw [fX6_init, e1, e2, e3, e4, e5, e6, e7, e8, e9, e10, hm, il0, e11, e12, s_109e]
