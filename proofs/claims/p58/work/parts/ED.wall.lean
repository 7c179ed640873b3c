/-! THE LAW'S WORLD: all of it -/
section WI6
variable {c c' c2 : CC} {A A' A2 : AI} {J J' J2 : JI} {M : AI} {g g0 o : Int → Int} {w d tvb capb NC NS tvb' capb' : Nat} {p p' : TP} {q qf nr : Int} {sc : Nat × (Nat → Int32)} {s : Int → Int} {qn : Int}
theorem blOK.lo {r : Int} (hr : 0 ≤ r) (z : Int) (hz : z < 16) : ∀ {vs : List Int} {g g' : Int → Int}, blOK M r g vs g' → 0 ≤ cel g r 0 → g' z = g z
  | [], g, g', h, h0 => by
    have h : g' = g := h
    rw [h]
  | v :: vs, g, g', h, h0 => by
    obtain ⟨⟨h1, h2, h3⟩, h4⟩ := h
    rw [h4.lo hr z hz (by rw [cel_gAdds _ _ _ _ _ ⟨⟨⟨hr, hr⟩, by omega⟩, h0, by omega⟩, if_pos ⟨rfl, rfl⟩]; omega)]
    exact lo_gAdds g r v z ⟨⟨hr, hz⟩, h0⟩
theorem Pth.lo (z : Int) (hz : 1 ≤ z ∧ z < 6) : ∀ {ls : List Ln} {s s' : CT}, Pth s ls s' → 0 ≤ s.1 0 9 → s'.2.1 z = s.2.1 z
  | [], s, s', h, k => by
    have h : s' = s := h
    rw [h]
  | l :: ls, s, s', h, k => by
    obtain ⟨s1, h1, h2⟩ := h
    rcases h1 with ⟨-, ⟨r1, r2, r3⟩, r4, e, -, hb⟩ | ⟨-, v, -, -, -, hno, e⟩
    · rw [h2.lo z hz (by rw [e]; exact k)]
      exact hb.lo r2 z (by omega) (by omega)
    · rw [h2.lo z hz (by rw [e]; show 0 ≤ kM s.1 l.1 l.2.1 0 9; rw [kM_9]; omega), e]
      exact gu_n _ _ _ _ (by omega)
/-- what the World is, once it is made -/
abbrev WDn (NC NS w d : Nat) (s : Int → Int) (qn : Int) (ls : List Ln) (M : AI) (g : Int → Int) (nr : Int) (c' : CC) (A' : AI) (J' : JI) (tvb capb : Nat) (p : TP) : Prop := WI NC NS w d c' A' J' tvb capb p 200 ∧ hdOK s qn ∧ Pth (hdS s qn) ls (M, g, nr) ∧ (∀ l, l ∈ ls → l.2.2.length < 100) ∧ ls.length ≤ 12 ∧ PreO p (hdT s qn ++ lnTs ls) ∧ p.1 ≤ 400 ∧ LdG M g ∧ (∀ o, ordOK (M 1) (M 2) (M 0 9) o → WR w A' M o g) ∧ (M 0 9 ≤ 4 ∧ M 0 2 ≤ 120) ∧ g 1 = 0 ∧ g 2 = 0
theorem n_world (hw : okc c w 13 16) (hwz : c.2.2.1 = w + 1) (hz : w + 40 < 900000) (hdr : isDraws c d) (hdw : d < w) (hd0 : A d 1 = 0) (hA : ∀ z, A w z = 0) (hs : sc.1 < 2147483648) : ∃ (c' : CC) (A' : AI) (J' : JI) (tvb capb : Nat) (p : TP) (s : Int → Int) (qn : Int) (ls : List Ln) (M : AI) (g : Int → Int) (nr : Int), fX19_init sc w d (CW c A J) = some (Sum.inl none, CW c' A' J') ∧ WDn (c.2.2.2.1 + 31) (c.2.2.2.2 + 6000) w d s qn ls M g nr c' A' J' tvb capb p := by
  obtain ⟨c1, A1, J1, tv, cap, e1, W1, K1, ⟨z1, z2, z3⟩, ⟨pB, T1, t1, k1⟩, o1⟩ := n_alloc (A := A) (J := J) hw hwz hz
  have hW0 : ∀ z, A1 w z = 0 := fun z => (K1.2.2.2.1 w z (by omega)).trans (hA z)
  have i1 : WI (c.2.2.2.1 + 31) (c.2.2.2.2 + 6000) w d c1 A1 J1 tv cap (tS 1000036 tP0) 0 := ⟨⟨W1, pB⟩, ⟨T1, Or.inl t1⟩, ⟨⟨K1.okc hdr.1, K1.ptr hdr.2 hdr.1.1 (Or.inl (by omega))⟩, hdw⟩, by rw [K1.2.2.2.1 d 1 hdr.1.1, hd0]; omega, by have := T1.2.2.1.1; omega, by omega⟩
  obtain ⟨u, A2, hu, e2, h2, f2⟩ := i1.draw (J := J1) sc hs 0 2 (by omega) (by omega) (x := 0) (y := 2) rfl rfl
  have st : fX19_init sc w d (CW c A J) = if ii u = 0 then fX19_init_150 sc w d (w + 3) 0 d 10 120 (CW c1 A2 J1) else fX19_init_150 sc w d (w + 3) 0 d 10 40 (CW c1 A2 J1) := by
    rw [fX19_init, e1, wdR1 W1, e2]
  have hset : SetR (c.2.2.2.1 + 31) (c.2.2.2.2 + 6000) w d sc 0 c1 A2 J1 tv cap (tS 1000036 tP0) 20 (fX19_init sc w d (CW c A J)) := by
    rw [st]
    by_cases y : ii u = 0
    · rw [if_pos y]
      exact w_150 h2 hs (by omega) 120 (by omega) rfl
    · rw [if_neg y]
      exact w_150 h2 hs (by omega) 40 (by omega) rfl
  obtain ⟨A3, e3, h3, -, hr3, f3⟩ := hset
  obtain ⟨c4, A4, J4, t4, k4, p4, n, e4, hn, h4, P4, b4, f4⟩ := w_head (sc := sc) h3 hs (by omega) hr3
  obtain ⟨s, hsd⟩ : ∃ s, s = A3 (w + 3) := ⟨_, rfl⟩
  obtain ⟨qn, hqn⟩ : ∃ qn, qn = A3 w 15 := ⟨_, rfl⟩
  obtain ⟨r0, r1, r2, r3, r4, r5, r6, r7⟩ := id hr3
  have hOK : hdOK s qn := by
    rw [hsd, hqn]
    have r0 := r0 (by omega)
    exact ⟨⟨by omega, r1 (by omega), r2 (by omega), r3 (by omega)⟩, r4 (by omega), r5 (by omega), r6 (by omega), r7 (by omega)⟩
  obtain ⟨⟨q0, q1, q2, q3⟩, q4, q5, q6, q7⟩ := id hOK
  rw [← hsd, ← hqn] at P4
  have hm := fun j hj => hdM_s s j hj
  have hz0 := fun b z hb => hdM_0 s b z hb
  have m9 : hdM s 0 9 = 0 := hz0 0 9 (by omega)
  have m0 := hm 0 (by omega)
  have m1 := hm 1 (by omega)
  have m2 := hm 2 (by omega)
  have m3 := hm 3 (by omega)
  have m4 := hm 4 (by omega)
  have m5 := hm 5 (by omega)
  have m6 := hm 6 (by omega)
  have hSA : SA (hdM s) := ⟨⟨by rw [show (2 : Int) = 0 + 2 from rfl, m0]; exact q0, by rw [show (3 : Int) = 1 + 2 from rfl, m1]; exact q1, by rw [show (4 : Int) = 2 + 2 from rfl, m2]; exact q2, by rw [show (5 : Int) = 3 + 2 from rfl, m3]; exact q3, by rw [show (6 : Int) = 4 + 2 from rfl, m4]; exact q5, by rw [show (7 : Int) = 5 + 2 from rfl, m5]; exact q6, by rw [show (8 : Int) = 6 + 2 from rfl, m6]; exact q7, by rw [m9]; omega⟩, fun k a b => by rw [hz0 1 k (by omega)]; omega, fun k a b => by rw [hz0 2 k (by omega)]; omega, fun k a b => by rw [m9] at b; omega⟩
  have hGu : ∀ z, z ≠ 0 → 0 ≤ z → z < 16 → gu hdG0 0 qn z = 0 := fun z a b d => by rw [gu_n _ _ _ _ a]; exact lo_gz _ z ⟨b, d⟩
  have hG0 : LdG (hdM s) (gu hdG0 0 qn) := ⟨hSA, GC_z hSA m9 (rwZ_u qn) (fun z a b => hGu z (by omega) (by omega) b) (by rw [gu_s]; exact q4), fun r a b => (rwZ_u qn r a b).2.1⟩
  have f34 : ∀ (b : Nat) (z : Int), inC w b → b ≠ w + 3 → ¬ (b = w ∧ z = 15) → A4 b z = A1 b z := fun b z hb x y => by rw [f4 b z hb, f3 b z (by omega) x (by omega), f2 b z (by omega)]
  have hz4 : ∀ (b : Nat) (z : Int), w + 4 ≤ b → b < w + 32 → A4 b z = 0 := fun b z x y => by rw [f34 b z (by omega) (by omega) (by omega)]; exact o1 b z (by omega) y
  have e33 : ∀ j, 0 ≤ j → j < 7 → A4 (w + 3) j = hdM s 0 (j + 2) := fun j a b => by rw [f4 _ _ (by omega), hm j ⟨a, b⟩, hsd]
  have hWK : WKd w A4 (hdM s) (gu hdG0 0 qn) := ⟨⟨⟨e33 0 (by omega) (by omega), e33 1 (by omega) (by omega), e33 2 (by omega) (by omega), e33 3 (by omega) (by omega), e33 4 (by omega) (by omega), e33 5 (by omega) (by omega), e33 6 (by omega) (by omega)⟩, by rw [m9, f34 w 14 (by omega) (by omega) (by omega)]; exact hW0 14, by rw [gu_s, f4 _ _ (by omega), hqn]⟩, fun k a b => by rw [m9] at b; omega, ⟨by rw [hGu 1 (by omega) (by omega) (by omega)]; exact hz4 _ _ (by omega) (by omega), by rw [hGu 2 (by omega) (by omega) (by omega)]; exact hz4 _ _ (by omega) (by omega), by rw [hGu 3 (by omega) (by omega) (by omega)]; exact hz4 _ _ (by omega) (by omega), by rw [hGu 4 (by omega) (by omega) (by omega)]; exact hz4 _ _ (by omega) (by omega), by rw [hGu 5 (by omega) (by omega) (by omega)]; exact hz4 _ _ (by omega) (by omega)⟩, fun k a b => by rw [hz4 _ _ (by omega) (by omega)]; omega, fun b z x => hz4 b z (by omega) (by omega)⟩
  have hK4 : KIv s qn w A4 (hdM s) (gu hdG0 0 qn) p4 [] := ⟨rfl, hG0, hWK, by rw [show hdT s qn ++ lnTs [] = hdT s qn from List.append_nil _]; exact P4, ⟨by rw [m9]; exact Int.le_refl 0, by rw [m9]; omega⟩, fun l hl => absurd hl (by simp), by rw [show (2 : Int) = 0 + 2 from rfl, m0, hsd]; have := r0 (by omega); omega, rwZ_u qn⟩
  obtain ⟨c5, A5, J5, t5, k5, p5, M5, g5, ls5, e5, h5, K5, m5'⟩ := w_406 (sc := sc) (qf := 70) hs n hn h4 (by omega) hK4 (by rw [m9]; omega)
  obtain ⟨hp5, hG5, hW5, hP5, ⟨hl5, hpl5⟩, hll5, h1205, hrw5⟩ := K5
  obtain ⟨A6, e6, h6, R6, f6⟩ := w_568 (sc := sc) h5 hW5 hrw5 hG5.1
  obtain ⟨c7, A7, J7, t7, k7, p7, e7, h7, g7, ls7, nr7, hp7, hnr7, hG7, hR7, hP7, ⟨l7, b7⟩, hll7, -⟩ := w_591 (sc := sc) (s := s) (qn := qn) (o := A6 (w + 6)) (qf := 190) hs hG5.1 m5' h1205 h6 (by omega) ⟨g5, ls5, 0, hp5, by omega, hG5, R6, hP5, by omega, hll5, fun r a b x => (hrw5 r b x).1⟩
  have hD := hp7.ds (fun j k a b x => by have x : k < hdM s 0 9 := x; rw [m9] at x; omega)
  obtain ⟨A8, e8, o8, f8⟩ := w_sorts (J := J7) h7.1.1 hG7.1 m5' hD hR7.1.2.1 (fun k a b => ⟨(hR7.2.1 k a b).1, (hR7.2.1 k a b).2.1⟩)
  have h90 := hG7.1.1.2.2.2.2.2.2.2
  have h38 := hG7.1.1.2.1
  have g71 := fun z hz => hp7.lo z hz (by show 0 ≤ hdM s 0 9; rw [m9]; omega)
  have hw8 : WI (c.2.2.2.1 + 31) (c.2.2.2.2 + 6000) w d c7 A8 J7 t7 k7 p7 200 := by
    obtain ⟨x1, ⟨⟨y1, y2, y3, y4, y5⟩, y6⟩, x3, x4, x5, x6⟩ := h7
    exact ⟨x1, ⟨⟨y1, by rw [f8 _ _ (by omega), f8 _ _ (by omega)]; exact y2, y3, fun k a b => by rw [f8 _ _ (by omega)]; exact y4 k a b, fun k a b => by rw [f8 _ _ (by omega)]; exact y5 k a b⟩, y6⟩, x3, by rw [f8 _ _ (by omega)]; omega, x5, x6⟩
  refine ⟨c7, A8, J7, t7, k7, p7, s, qn, ls7, M5, g7, nr7, ?_, hw8, hOK, hp7, hll7, by omega, hP7, by omega, hG7, fun o ho => ?_, ⟨m5', h1205⟩, ?_, ?_⟩
  · rw [e3, e4, e5, e6, e7, fX19_init_712, wdV h7.1.1, e8, k_C, q_V]
  · obtain ⟨a1, a2, a3, a4, a5, a6⟩ := hR7
    have fo : ∀ (b : Nat) (z : Int), inC w b → b ≠ w + 6 → A8 b z = A7 b z := fun b z _ x => f8 b z x
    obtain ⟨⟨⟨y0, y1, y2, y3, y4, y5, y6⟩, y7, y8⟩, y9, ⟨z0, z1, z2, z3, z4⟩⟩ := And.intro a1 (And.intro a2 a3)
    have e3' : ∀ z, A8 (w + 3) z = A7 (w + 3) z := fun z => f8 _ z (by omega)
    have e7' : ∀ z, A8 (w + 7) z = A7 (w + 7) z := fun z => f8 _ z (by omega)
    refine ⟨⟨by rw [e3', e3', e3', e3', e3', e3', e3']; exact ⟨y0, y1, y2, y3, y4, y5, y6⟩, by rw [f8 _ _ (by omega)]; exact y7, by rw [f8 _ _ (by omega)]; exact y8⟩, fun k a b => by rw [f8 _ _ (by omega), f8 _ _ (by omega), f8 _ _ (by omega)]; exact y9 k a b, by rw [e7', e7', e7', e7', e7']; exact ⟨z0, z1, z2, z3, z4⟩, fun r a b => ?_, fun x a b => ?_, fun k a b => by rw [f8 _ _ (by omega)]; exact a6 k a b⟩
    · obtain ⟨⟨u1, u2, u3, u4, u5⟩, u6, u7⟩ := a4 r a b
      exact ⟨⟨by rw [f8 _ _ (by omega)]; exact u1, by rw [f8 _ _ (by omega)]; exact u2, by rw [f8 _ _ (by omega)]; exact u3, fun y => by rw [f8 _ _ (by omega)]; exact u4 y, by rw [f8 _ _ (by omega)]; exact u5⟩, fun k x y => by rw [f8 _ _ (by omega)]; exact u6 k x y, fun k x y => by rw [f8 _ _ (by omega)]; exact u7 k x y⟩
    · have ho1 := ho.1 x a b
      have := o8 (o x) ho1.1 ho1.2
      rw [rk_ord ho x ⟨a, b⟩] at this
      exact this
  · exact (g71 1 (by omega)).trans (hGu 1 (by omega) (by omega) (by omega))
  · exact (g71 2 (by omega)).trans (hGu 2 (by omega) (by omega) (by omega))
end WI6
