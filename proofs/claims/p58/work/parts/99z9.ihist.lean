/-! THE START: the history -/
section IHI
variable {c c0 c1 : CC} {A A0 : AI} {J J0 : JI} {X b i p Y : Nat}
theorem isPlan.pt (h : isPlan c X) (b i p : Nat) (hb : X ≠ b) : isPlan (ptC c b i p) X := ⟨h.1, ptr_pt h.2.1 _ _ _ (fun e => hb e.1), ptr_pt h.2.2.1 _ _ _ (fun e => hb e.1), ptr_pt h.2.2.2 _ _ _ (fun e => hb e.1)⟩
theorem isReader.pt (h : isReader c X) (b i p : Nat) (hb : X ≠ b) : isReader (ptC c b i p) X := ⟨h.1, ptr_pt h.2.1 _ _ _ (fun e => hb e.1), ptr_pt h.2.2 _ _ _ (fun e => hb e.1)⟩
theorem isState.pt (h : isState c X) (b i p : Nat) (hb : b < X) : isState (ptC c b i p) X := ⟨h.1, ⟨ptr_pt h.2.1.1 _ _ _ (by omega), ptr_pt h.2.1.2 _ _ _ (by omega)⟩, fun r a d => ⟨ptr_pt (h.2.2 r a d).1 _ _ _ (by omega), (h.2.2 r a d).2.pt _ _ _ (by unfold rc; omega)⟩⟩
theorem isState.pt2 (h : isState c X) (b i p : Nat) (hb : X + 35 ≤ b) : isState (ptC c b i p) X := ⟨h.1, ⟨ptr_pt h.2.1.1 _ _ _ (by omega), ptr_pt h.2.1.2 _ _ _ (by omega)⟩, fun r a d => ⟨ptr_pt (h.2.2 r a d).1 _ _ _ (by omega), (h.2.2 r a d).2.pt _ _ _ (by unfold rc; omega)⟩⟩
theorem isSolver.pt (h : isSolver c X) (b i p : Nat) (hb : b < X) : isSolver (ptC c b i p) X := ⟨h.1, ⟨ptr_pt h.2.1.1 _ _ _ (by omega), ptr_pt h.2.1.2.1 _ _ _ (by omega), ptr_pt h.2.1.2.2.1 _ _ _ (by omega), ptr_pt h.2.1.2.2.2.1 _ _ _ (by omega), ptr_pt h.2.1.2.2.2.2 _ _ _ (by omega)⟩, fun r a d => ⟨ptr_pt (h.2.2 r a d).1 _ _ _ (by omega), (h.2.2 r a d).2⟩⟩
theorem isHist.pt (h : isHist c X) (b i p : Nat) (hb : b < X) : isHist (ptC c b i p) X := ⟨h.1, ptr_pt h.2.1 _ _ _ (by omega), fun r a d => ⟨ptr_pt (h.2.2 r a d).1 _ _ _ (by omega), (h.2.2 r a d).2.pt _ _ _ (by unfold hs; omega)⟩⟩
/-- how far the history is -/
abbrev hiS (c0 : CC) (A0 : AI) (J0 : JI) (Y : Nat) (i : Int) (c : CC) (A : AI) (J : JI) : Prop :=
  (c.2.2.1 = Y + 2 + 35 * i.toNat ∧ c.2.2.2.1 = c0.2.2.2.1 + 2 + 35 * i.toNat ∧ c.2.2.2.2 = c0.2.2.2.2 + 11 + 490 * i.toNat) ∧ (okc c Y 4 3 ∧ okc c (Y + 1) 112 8) ∧ ptr c Y 0 (Y + 1) ∧ (∀ r : Int, 0 ≤ r → r < i → ptr c (Y + 1) r.toNat (hs Y r) ∧ isState c (hs Y r)) ∧ exc c0 c ∧ oth c0 A0 A J0 J ∧ ∀ z : Int, A Y z = 0
theorem i_states (hY : c0.2.2.1 = Y ∧ Y < 700000) (h : hiS c0 A0 J0 Y 0 c A J) : ∃ (c' : CC) (A' : AI) (J' : JI), fX0_init_15 FU Y (ii 0) (CW c A J) = some (Sum.inl none, CW c' A' J') ∧ hiS c0 A0 J0 Y 8 c' A' J' := by
  refine lp (fun m i (s : CC × AI × JI) => fX0_init_15 m Y (ii i) (CW s.1 s.2.1 s.2.2)) (fun x => ∃ (c' : CC) (A' : AI) (J' : JI), x = some (Sum.inl none, CW c' A' J') ∧ hiS c0 A0 J0 Y 8 c' A' J') (fun i s => 0 ≤ i ∧ hiS c0 A0 J0 Y i s.1 s.2.1 s.2.2) 8 ?_ ?_ FU 0 (c, A, J) (by omega) ⟨by omega, h⟩ (by have := FU_e; omega)
  · rintro m i ⟨c1, A1, J1⟩ hi ⟨hI, ⟨z1, z2, z3⟩, ⟨o1, o2⟩, p1, hr, hx, hf, h0⟩
    dsimp only at z1 z2 z3 o1 o2 p1 hr hx hf h0 ⊢
    obtain ⟨c2, A2, J2, e, hst, hxs, y1, f1, f2⟩ := i_state (c := c1) (A := A1) (J := J1) (by omega)
    have hhs : hs Y i = c1.2.2.1 := by unfold hs; omega
    refine Or.inr ⟨(ptC c2 (Y + 1) i.toNat c1.2.2.1, A2, J2), ⟨by omega, ⟨?_, ?_, ?_⟩, ⟨okc_pt (okc_x o1 hxs) _ _ _, okc_pt (okc_x o2 hxs) _ _ _⟩, ptr_pt (ptr_x o1 p1 hxs) _ _ _ (by omega), fun r a d => ?_, (hx.trans hxs).pt _ _ _ (by omega), ⟨fun b z q => ?_, fun b j q => ?_⟩, fun z => ?_⟩, ?_⟩
    · show c2.2.2.1 = _
      omega
    · show c2.2.2.2.1 = _
      omega
    · show c2.2.2.2.2 = _
      omega
    · by_cases q : r = i
      · rw [q, hhs]
        exact ⟨ax_up2_s _ _ _ _, hst.pt _ _ _ (by omega)⟩
      · have hq := hr r a (by omega)
        exact ⟨ptr_pt (ptr_x o2 hq.1 hxs) _ _ _ (fun e => by have := e.2; omega), (hq.2.x hxs).pt _ _ _ (by unfold hs; omega)⟩
    · show A2 b z = A0 b z
      rw [f1 b z (by omega)]; exact hf.1 b z q
    · show J2 b j = J0 b j
      rw [f2 b j (by omega)]; exact hf.2 b j q
    · show A2 Y z = 0
      rw [f1 Y z (by omega)]; exact h0 z
    · show fX0_init_15 (m + 1) Y (ii i) (CW c1 A1 J1) = fX0_init_15 m Y (ii (i + 1)) (CW (ptC c2 (Y + 1) i.toNat c1.2.2.1) A2 J2)
      rw [fX0_init_15, il1, il8, if_neg (by rw [ii_le _ _ (by omega)]; omega), k_gR o1 p1, e, k_uR (okc_x o2 hxs) hst.1.1 i (by omega), ii_add, lt_q]
  · rintro m ⟨c1, A1, J1⟩ ⟨hI, hs⟩
    refine ⟨c1, A1, J1, ?_, hs⟩
    show fX0_init_15 (m + 1) Y (ii 8) (CW c1 A1 J1) = _
    rw [fX0_init_15, il8, if_pos (Int32.le_refl _)]
/-- a new history -/
theorem i_hist (hz : c.2.2.1 < 700000) (A : AI) (J : JI) : ∃ (c' : CC) (A' : AI) (J' : JI), (∀ k : Nat → AS → Option AR, nO (CW c A J) 4 3 (fun q s => cS s (fX0_init q s) (qV (k q))) = k c.2.2.1 (CW c' A' J')) ∧ isHist c' c.2.2.1 ∧ exc c c' ∧ (c'.2.2.1 = c.2.2.1 + 282 ∧ c'.2.2.2.1 = c.2.2.2.1 + 282 ∧ c'.2.2.2.2 = c.2.2.2.2 + 3931) ∧ oth c A A' J J' ∧ ∀ z, A' c.2.2.1 z = 0 := by
  have o0 := nw_o (c := c) 4 3
  have x0 : exc c (nwC c 4 3) := exc.new _ _ _
  have t0 := oth.nw (c := c) (A := A) (J := J) 4 3
  have z0 : (nwC c 4 3).2.2.1 = c.2.2.1 + 1 ∧ (nwC c 4 3).2.2.2.1 = c.2.2.2.1 + 1 ∧ (nwC c 4 3).2.2.2.2 = c.2.2.2.2 + 3 := ⟨rfl, rfl, rfl⟩
  have a0 : ∀ z, nwA c A c.2.2.1 z = 0 := nw_A
  have hob := fun c' A' J' => i_obj (c := c) (A := A) (J := J) (c' := c') (A' := A') (J' := J') (ci := 4) (n := 3) (F := fX0_init) (by omega)
  generalize nwC c 4 3 = c1 at o0 x0 z0 hob
  generalize nwA c A = A1 at t0 hob a0
  generalize nwJ c J = J1 at t0 hob
  obtain ⟨c2, A2, J2, e2, s2⟩ := k_step (n := 8) (x := 8) o0 (by omega) (by decide) 112 0 A1 J1
  have y2 := s2.1
  obtain ⟨c3, A3, J3, e3, ⟨h1, h2, h3, h4, h5, h6, h7⟩⟩ := i_states (c0 := c) (A0 := A) (J0 := J) (Y := c.2.2.1) (c := c2) (A := A2) (J := J2) ⟨rfl, hz⟩ ⟨⟨by show _ = c.2.2.1 + 2 + 35 * 0; omega, by show _ = c.2.2.2.1 + 2 + 35 * 0; omega, by show _ = c.2.2.2.2 + 11 + 490 * 0; omega⟩, ⟨s2.2.2.2.1 _ _ _ o0, by rw [show c.2.2.1 + 1 = c1.2.2.1 by omega]; exact s2.2.1⟩, by rw [show c.2.2.1 + 1 = c1.2.2.1 by omega]; exact s2.2.2.1, fun r a b => by omega, s2.x x0 (Nat.le_refl _), t0.stp s2 (by omega), fun z => (s2.2.2.2.2.2.1 _ z (by omega)).trans (a0 z)⟩
  have h1' : c3.2.2.1 = c.2.2.1 + 2 + 35 * 8 ∧ c3.2.2.2.1 = c.2.2.2.1 + 2 + 35 * 8 ∧ c3.2.2.2.2 = c.2.2.2.2 + 11 + 490 * 8 := h1
  refine ⟨c3, A3, J3, fun k => hob c3 A3 J3 ?_ (by omega) k, ⟨h2, h3, h4⟩, h5, by omega, h6, h7⟩
  rw [fX0_init, e2, il0, e3]
end IHI
