/-! THE LAW: its start, behind the object's making -/
section STA
variable {n : Nat} {c c' c2 : CC} {A A' A2 : AI} {J J' J2 : JI} {M Mw : AI} {g gw : Int → Int} {pl sp tv cap k m w d tvb capb : Nat} {p : TP}
/-- nothing is loaded yet; the World is made -/
def LwE (n pl sp tv cap : Nat) (c : CC) (A : AI) (J : JI) (M : AI) (g : Int → Int) (w d tvb capb : Nat) (p : TP) (Mw : AI) (gw : Int → Int) : Prop := Inv CL NL n pl sp tv cap c A J M g ∧ (M 0 1 = 0 ∧ M 0 0 = 0 ∧ M 0 18 = 0 ∧ M 0 40 = 0) ∧ ((isWorld c w ∧ ptr c w 0 (w + 1)) ∧ (455 ≤ d ∧ d < w ∧ w + 32 ≤ c.2.2.1) ∧ isDraws c d) ∧ (TG c A (w + 1) tvb capb p ∧ 455 ≤ tvb) ∧ (0 ≤ A d 1 ∧ A d 1 ≤ 200) ∧ (∀ o, ordOK (Mw 1) (Mw 2) (Mw 0 9) o → WR w A Mw o gw) ∧ (1 ≤ Mw 0 3 ∧ Mw 0 3 ≤ 8) ∧ (tv < w ∨ w + 32 ≤ tv)
theorem LwE.lx (h : LwE n pl sp tv cap c A J M g w d tvb capb p Mw gw) (hx : LX k m c c' A A' J J') (hr : RO CL NL n cap c k m) (hz : c.2.2.1 + k ≤ 900000) : LwE n pl sp tv cap c' A' J' M g w d tvb capb p Mw gw := by
  obtain ⟨hI, hM, ⟨⟨hW, hB⟩, hw, hd⟩, ⟨⟨t1, t2, t3, t4, t5⟩, ht⟩, hq, hR, h8, htv⟩ := h
  have hle := hx.1.1
  have hzl := hx.2.1.1
  have hz2 := zB_e
  have ns : ∀ b : Nat, 455 ≤ b → ¬ scC b := fun b a y => by have := scC_lt y; omega
  have fA : ∀ (b : Nat) (z : Int), 455 ≤ b → b < c.2.2.1 → A' b z = A b z := fun b z a e => hx.2.2.1 b z e (ns b a)
  have tz := t1.2.2.1.1
  refine ⟨hI.lx' hx hr, hM, ⟨⟨hW.x hx.1, ptr_x hW.1.1 hB hx.1⟩, by omega, hd.x hx.1⟩, ⟨⟨t1.x hx.1, by rw [fA _ _ (by omega) (by omega), fA _ _ (by omega) (by omega)]; exact t2, by omega, fun k a b => by rw [fA _ _ ht tz]; exact t4 k a b, fun k a b => by rw [fA _ _ ht tz]; exact t5 k a b⟩, ht⟩, by rw [fA _ _ (by omega) (by omega)]; exact hq, fun o ho => (hR o ho).fr (fun b z hb => fA b z (by unfold inW at hb; omega) (by unfold inW at hb; omega)) h8.2, h8, htv⟩
theorem n_thS_count (h : LwE n pl sp tv cap c A J M g w d tvb capb p Mw gw) (hro : RO CL NL n cap c 3 12) : ∃ (c' : CC) (A' : AI) (J' : JI), (∀ K : Int32 → AS → Option AR, nA (CW c A J) 100 1 (fun q1 s2 => uI s2 q1 0 0 (fun s3 => cR s3 (fL_thrown 0 0 q1 s3) (qI K))) = K (ii 1) (CW c' A' J')) ∧ LX 3 12 c c' A A' J J' := by
  have hz2 := zB_e
  have x1 : LX 1 1 c (nwC c 100 1) A (up (nwA c A) c.2.2.1 0 0) J (nwJ c J) := (LX.new c A J 100 1).upN _ _ _ (Nat.le_refl _)
  have h1 := h.lx x1 (by omega) (by omega)
  have o1 : okc (nwC c 100 1) c.2.2.1 100 1 := ⟨Nat.lt_succ_self _, if_pos rfl⟩
  have z1 : (nwC c 100 1).2.2.1 = c.2.2.1 + 1 := rfl
  have z2 : (nwC c 100 1).2.2.2.1 = c.2.2.2.1 + 1 := rfl
  have z3 : (nwC c 100 1).2.2.2.2 = c.2.2.2.2 + 1 := rfl
  obtain ⟨c3, A3, J3, y3, y4⟩ := t_thr_count (J := nwJ c J) (A := up (nwA c A) c.2.2.1 0 0) (L := 1) h1.1.1 (by omega) o1 (by omega) nCode1 (fun c4 A4 J4 hx => by
    have h4 := h1.lx hx (by omega) (by omega)
    rw [up_s]
    exact ⟨A4, J4, d_count0 h4.1 h4.2.1.1 0, frm.refl _ _ _⟩)
  refine ⟨c3, A3, J3, fun K => ?_, x1.trans y4⟩
  have l0 : ∀ (E : AI) (k : AS → Option AR), uI (CW (nwC c 100 1) E (nwJ c J)) c.2.2.1 0 0 k = k (CW (nwC c 100 1) (up E c.2.2.1 0 0) (nwJ c J)) := fun E k => k_uI o1 0 0 (by omega) k
  rw [k_nA (n := 1) _ (by omega) ⟨rfl, by decide, by omega⟩, l0, y3, k_R y4, q_I]
theorem n_thS_print (h : LwE n pl sp tv cap c A J M g w d tvb capb p Mw gw) (hro : RO CL NL n cap c 3 12) : ∃ (c' : CC) (A' : AI) (J' : JI), (∀ K : Int32 → AS → Option AR, nA (CW c A J) 100 1 (fun q1 s2 => uI s2 q1 0 1 (fun s3 => cR s3 (fL_thrown 0 21 q1 s3) (qI K))) = K (ii 1) (CW c' A' J')) ∧ LX 3 12 c c' A A' J J' := by
  have hz2 := zB_e
  have x1 : LX 1 1 c (nwC c 100 1) A (up (nwA c A) c.2.2.1 0 1) J (nwJ c J) := (LX.new c A J 100 1).upN _ _ _ (Nat.le_refl _)
  have h1 := h.lx x1 (by omega) (by omega)
  have o1 : okc (nwC c 100 1) c.2.2.1 100 1 := ⟨Nat.lt_succ_self _, if_pos rfl⟩
  have z1 : (nwC c 100 1).2.2.1 = c.2.2.1 + 1 := rfl
  have z2 : (nwC c 100 1).2.2.2.1 = c.2.2.2.1 + 1 := rfl
  have z3 : (nwC c 100 1).2.2.2.2 = c.2.2.2.2 + 1 := rfl
  obtain ⟨c3, A3, J3, y3, y4⟩ := t_thr_print (J := nwJ c J) (A := up (nwA c A) c.2.2.1 0 1) (L := 1) h1.1.1 (by omega) o1 (by omega) nCode1 (fun c4 A4 J4 hx => by
    have h4 := h1.lx hx (by omega) (by omega)
    rw [up_s]
    exact ⟨A4, J4, d_print0 h4.1 h4.2.1.1 1, frm.refl _ _ _⟩)
  refine ⟨c3, A3, J3, fun K => ?_, x1.trans y4⟩
  have l0 : ∀ (E : AI) (k : AS → Option AR), uI (CW (nwC c 100 1) E (nwJ c J)) c.2.2.1 0 1 k = k (CW (nwC c 100 1) (up E c.2.2.1 0 1) (nwJ c J)) := fun E k => k_uI o1 0 1 (by omega) k
  rw [k_nA (n := 1) _ (by omega) ⟨rfl, by decide, by omega⟩, l0, y3, k_R y4, q_I]
theorem n_thS_textByte (h : LwE n pl sp tv cap c A J M g w d tvb capb p Mw gw) (hro : RO CL NL n cap c 3 12) : ∃ (c' : CC) (A' : AI) (J' : JI), (∀ K : Int32 → AS → Option AR, nA (CW c A J) 100 1 (fun q1 s2 => uI s2 q1 0 0 (fun s3 => cR s3 (fL_thrown 0 11 q1 s3) (qI K))) = K (ii 2) (CW c' A' J')) ∧ LX 3 12 c c' A A' J J' := by
  have hz2 := zB_e
  have x1 : LX 1 1 c (nwC c 100 1) A (up (nwA c A) c.2.2.1 0 0) J (nwJ c J) := (LX.new c A J 100 1).upN _ _ _ (Nat.le_refl _)
  have h1 := h.lx x1 (by omega) (by omega)
  have o1 : okc (nwC c 100 1) c.2.2.1 100 1 := ⟨Nat.lt_succ_self _, if_pos rfl⟩
  have z1 : (nwC c 100 1).2.2.1 = c.2.2.1 + 1 := rfl
  have z2 : (nwC c 100 1).2.2.2.1 = c.2.2.2.1 + 1 := rfl
  have z3 : (nwC c 100 1).2.2.2.2 = c.2.2.2.2 + 1 := rfl
  obtain ⟨c3, A3, J3, y3, y4⟩ := t_thr_textByte (J := nwJ c J) (A := up (nwA c A) c.2.2.1 0 0) (L := 1) h1.1.1 (by omega) o1 (by omega) nCode2 (fun c4 A4 J4 hx => by
    have h4 := h1.lx hx (by omega) (by omega)
    rw [up_s]
    exact ⟨A4, J4, d_textByteN h4.1 0 (by have := h4.2.1.2.2.2; omega) (by omega), frm.refl _ _ _⟩)
  refine ⟨c3, A3, J3, fun K => ?_, x1.trans y4⟩
  have l0 : ∀ (E : AI) (k : AS → Option AR), uI (CW (nwC c 100 1) E (nwJ c J)) c.2.2.1 0 0 k = k (CW (nwC c 100 1) (up E c.2.2.1 0 0) (nwJ c J)) := fun E k => k_uI o1 0 0 (by omega) k
  rw [k_nA (n := 1) _ (by omega) ⟨rfl, by decide, by omega⟩, l0, y3, k_R y4, q_I]
theorem n_thS_rowFor (h : LwE n pl sp tv cap c A J M g w d tvb capb p Mw gw) (hro : RO CL NL n cap c 3 12) : ∃ (c' : CC) (A' : AI) (J' : JI), (∀ K : Int32 → AS → Option AR, nA (CW c A J) 100 1 (fun q1 s2 => uI s2 q1 0 1 (fun s3 => cR s3 (fL_thrown 0 8 q1 s3) (qI K))) = K (ii 1) (CW c' A' J')) ∧ LX 3 12 c c' A A' J J' := by
  have hz2 := zB_e
  have x1 : LX 1 1 c (nwC c 100 1) A (up (nwA c A) c.2.2.1 0 1) J (nwJ c J) := (LX.new c A J 100 1).upN _ _ _ (Nat.le_refl _)
  have h1 := h.lx x1 (by omega) (by omega)
  have o1 : okc (nwC c 100 1) c.2.2.1 100 1 := ⟨Nat.lt_succ_self _, if_pos rfl⟩
  have z1 : (nwC c 100 1).2.2.1 = c.2.2.1 + 1 := rfl
  have z2 : (nwC c 100 1).2.2.2.1 = c.2.2.2.1 + 1 := rfl
  have z3 : (nwC c 100 1).2.2.2.2 = c.2.2.2.2 + 1 := rfl
  obtain ⟨c3, A3, J3, y3, y4⟩ := t_thr_rowFor (J := nwJ c J) (A := up (nwA c A) c.2.2.1 0 1) (L := 1) h1.1.1 (by omega) o1 (by omega) nCode1 (fun c4 A4 J4 hx => by
    have h4 := h1.lx hx (by omega) (by omega)
    rw [up_s]
    exact ⟨A4, J4, d_rowFor0 h4.1 h4.2.1.1 1, frm.refl _ _ _⟩)
  refine ⟨c3, A3, J3, fun K => ?_, x1.trans y4⟩
  have l0 : ∀ (E : AI) (k : AS → Option AR), uI (CW (nwC c 100 1) E (nwJ c J)) c.2.2.1 0 1 k = k (CW (nwC c 100 1) (up E c.2.2.1 0 1) (nwJ c J)) := fun E k => k_uI o1 0 1 (by omega) k
  rw [k_nA (n := 1) _ (by omega) ⟨rfl, by decide, by omega⟩, l0, y3, k_R y4, q_I]
theorem n_thS_undo (h : LwE n pl sp tv cap c A J M g w d tvb capb p Mw gw) (hro : RO CL NL n cap c 3 12) : ∃ (c' : CC) (A' : AI) (J' : JI), (∀ K : Int32 → AS → Option AR, nA (CW c A J) 100 0 (fun q1 s3 => cR s3 (fL_thrown 0 24 q1 s3) (qI K)) = K (ii 1) (CW c' A' J')) ∧ LX 3 12 c c' A A' J J' := by
  have hz2 := zB_e
  have x1 : LX 1 0 c (nwC c 100 0) A (nwA c A) J (nwJ c J) := LX.new c A J 100 0
  have h1 := h.lx x1 (by omega) (by omega)
  have o1 : okc (nwC c 100 0) c.2.2.1 100 0 := ⟨Nat.lt_succ_self _, if_pos rfl⟩
  have z1 : (nwC c 100 0).2.2.1 = c.2.2.1 + 1 := rfl
  have z2 : (nwC c 100 0).2.2.2.1 = c.2.2.2.1 + 1 := rfl
  have z3 : (nwC c 100 0).2.2.2.2 = c.2.2.2.2 + 0 := rfl
  obtain ⟨c3, A3, J3, y3, y4⟩ := t_thr_undo (J := nwJ c J) (A := nwA c A) (L := 0) h1.1.1 (by omega) o1 (by omega) nCode1 (fun c4 A4 J4 hx => by
    have h4 := h1.lx hx (by omega) (by omega)
    exact ⟨A4, J4, d_undo0 h4.1 h4.2.1.1, frm.refl _ _ _⟩)
  refine ⟨c3, A3, J3, fun K => ?_, (x1.trans y4).mono (by omega) (by omega)⟩
  rw [k_nA (n := 0) _ (by omega) ⟨rfl, by decide, by omega⟩, y3, k_R y4, q_I]
theorem ii_1 : ii 1 = (1 : Int32) := rfl
theorem n_law26 (h : LwE n pl sp tv cap c A J M g w d tvb capb p Mw gw) (hn : n ≤ 10) (hsz : c.2.2.1 ≤ 20000 ∧ c.2.2.2.1 ≤ 20000 ∧ c.2.2.2.2 ≤ 200000) (sc : Nat × (Nat → Int32)) (hs : sc.1 < 2147483648) {s : Int → Int} {qn : Int} {ls : List Ln} {nr : Int} (hOK : hdOK s qn) (hp : Pth (hdS s qn) ls (Mw, gw, nr)) (hll : ∀ l, l ∈ ls → l.2.2.length < 100) (hln : ls.length ≤ 12) (hP : PreO p (hdT s qn ++ lnTs ls)) (hp4 : p.1 ≤ 400) (h4 : Mw 0 9 ≤ 4 ∧ Mw 0 2 ≤ 120) (hg : gw 1 = 0 ∧ gw 2 = 0) : LawR (fL_law_26 sc d w 0 (CW c A J)) := by
  have hz2 := zB_e
  have hCL := CL_e
  have hNL := NL_e
  obtain ⟨c1, A1, J1, e1, x1⟩ := n_thS_count h (by omega)
  have h1 := h.lx x1 (by omega) (by omega)
  have b1 := x1.gro
  obtain ⟨c2, A2, J2, e2, x2⟩ := n_thS_print h1 (by omega)
  have h2 := h1.lx x2 (by omega) (by omega)
  have b2 := x2.gro
  obtain ⟨c3, A3, J3, e3, x3⟩ := n_thS_undo h2 (by omega)
  have h3 := h2.lx x3 (by omega) (by omega)
  have b3 := x3.gro
  obtain ⟨c4, A4, J4, e4, x4⟩ := n_thS_textByte h3 (by omega)
  have h5 := h3.lx x4 (by omega) (by omega)
  have b4 := x4.gro
  obtain ⟨c5, A5, J5, e5, x5⟩ := n_thS_rowFor h5 (by omega)
  have h6 := h5.lx x5 (by omega) (by omega)
  have b5 := x5.gro
  have e6 := d_undoable0 h6.1 h6.2.1.1
  obtain ⟨hI, hMz, ⟨⟨hW, hB⟩, hw, hd⟩, ⟨hT, htvb⟩, hq, hR, h8, htv⟩ := id h6
  obtain ⟨c7, A7, J7, e7, s7, x7, z7⟩ := k_tT (J := J5) hT (by omega)
  have h7 := h6.lx x7 (by omega) (by omega)
  have b7 := x7.gro
  have hp0 := hT.2.2.1.1
  obtain ⟨c8, A8, J8, M8, n8, e8, hI8, hn8, k8, hF8, hE8, hk8⟩ := n_tell h7.1 h7.2.1.2.2.1 s7 (by omega) (by omega) (by omega) s qn hOK ls hp hll (by omega) (by rw [show ((p.1.toNat : Nat) : Int) = p.1 by omega]; exact hP.fin)
  have b8 := hE8.2.1
  obtain ⟨hI7, hM7, ⟨⟨hW7, hB7⟩, hw7, hd7⟩, -, hq7, hR7, -, -⟩ := id h7
  have hcap : cap ≤ 7000 := h.1.2.2.2.2.2.1.2.1.2.2
  have hl8 : ldM M8 Mw 0 1 = 1 := ldM_1 _ _
  have h08 : ldM M8 Mw 0 0 = 0 := by rw [ldM_o _ _ 0 (by omega), hF8.1 0 (by omega)]; exact hM7.2.1
  have hord : ordOK (Mw 1) (Mw 2) (Mw 0 9) (A8 (sp + 3)) := by
    have := (hI8.li hl8).2.1.2.2
    rw [ldM_b _ _ 1 (by omega), ldM_b _ _ 2 (by omega), ldM_z _ _ 9 (by omega)] at this
    exact this
  have kp : KP Mw (fun b z => if b = 0 ∧ (z = 0 ∨ z = 1) then Mw 0 z else ldM M8 Mw b z) := ⟨fun z a b => by
    by_cases y : z = 0 ∨ z = 1
    · exact if_pos ⟨rfl, y⟩
    · exact (if_neg (by omega)).trans (ldM_z _ _ z (by omega)), (funext fun z => if_neg (by omega) : (fun z => if (1 : Nat) = 0 ∧ (z = 0 ∨ z = 1) then Mw 0 z else ldM M8 Mw 1 z) = ldM M8 Mw 1).trans (ldM_b _ _ 1 (by omega)), (funext fun z => if_neg (by omega) : (fun z => if (2 : Nat) = 0 ∧ (z = 0 ∨ z = 1) then Mw 0 z else ldM M8 Mw 2 z) = ldM M8 Mw 2).trans (ldM_b _ _ 2 (by omega))⟩
  have hRn : WR w A8 (ldM M8 Mw) (A8 (sp + 3)) gw := by
    have hr0 := (hR7 _ hord).fr (fun b z hb => hE8.2.2.1 b z (by unfold inW at hb; omega) (by unfold inW at hb; omega)) h8.2
    unfold WR at hr0 ⊢
    rw [ldM_b _ _ 1 (by omega), ldM_b _ _ 2 (by omega), ldM_z _ _ 2 (by omega), ldM_z _ _ 3 (by omega), ldM_z _ _ 4 (by omega), ldM_z _ _ 5 (by omega), ldM_z _ _ 6 (by omega), ldM_z _ _ 7 (by omega), ldM_z _ _ 8 (by omega), ldM_z _ _ 9 (by omega)]
    exact hr0
  have hWx := hW7.x hE8.1
  have hdx := hd7.x hE8.1
  have hW8 : isWorld (swp c8 pl sp) w := by
    obtain ⟨⟨a0, a3, a4, a5, a6, a7, a8, a9, a18, a27, a28, a29, a30, a31⟩, ⟨y1, y2, y3, y4, y5, y6, y7, y8, y9, y10, y11, y12, y13⟩, hr⟩ := hWx
    have ne : w ≠ 0 := by omega
    have pt : ∀ {a j q : Nat}, a ≠ 0 → ptr c8 a j q → ptr (swp c8 pl sp) a j q := fun ha hh => ptr_sw hh (Or.inl ha)
    exact ⟨⟨a0, a3, a4, a5, a6, a7, a8, a9, a18, a27, a28, a29, a30, a31⟩, ⟨pt ne y1, pt ne y2, pt ne y3, pt ne y4, pt ne y5, pt ne y6, pt ne y7, pt ne y8, pt ne y9, pt ne y10, pt ne y11, pt ne y12, pt ne y13⟩, fun r u v => by
      obtain ⟨⟨r1, r2⟩, r3, r4⟩ := hr r u v
      exact ⟨⟨pt (by omega) r1, r2⟩, pt (by omega) r3, r4⟩⟩
  have hd8 : isDraws (swp c8 pl sp) d := ⟨hdx.1, ptr_sw hdx.2 (Or.inl (by omega))⟩
  have hD8 : LwD CL NL n8 sp pl tv cap (swp c8 pl sp) A8 J8 (ldM M8 Mw) gw w d 200 := ⟨⟨hI8, ⟨hl8, h08⟩, ⟨hW8, hRn⟩, ⟨by omega, by show w + 32 ≤ c8.2.2.1; omega⟩, by rw [ldM_z _ _ 9 (by omega)]; exact h4.1, by rw [ldM_z _ _ 2 (by omega)]; exact h4.2⟩, ⟨hd8, by omega, by omega⟩, htv, by rw [hE8.2.2.1 d 1 (by omega) (by omega)]; exact hq7, by omega, by omega, by omega⟩
  have z8 : (swp c8 pl sp).2.2.1 = c8.2.2.1 ∧ (swp c8 pl sp).2.2.2.1 = c8.2.2.2.1 ∧ (swp c8 pl sp).2.2.2.2 = c8.2.2.2.2 := ⟨rfl, rfl, rfl⟩
  have e9 := d_parseError (J := J8) hI8.1 k8.1
  have ea := d_errorPosition (J := J8) hI8.1 k8.2
  obtain ⟨cb, Ab, Jb, eb, xb⟩ := n_isLike hD8.1 (by omega)
  have hDb := hD8.lx xb (by omega)
  have bb := xb.gro
  obtain ⟨v, Ac, hv, ec, hDc⟩ := hDb.draw sc hs 1 12 (by omega) (by omega) (x := 1) (y := 12) rfl rfl
  have hL := n_loop sc hs v (by omega) (⟨n8, sp, pl, tv, cap, _, _, _, hDc, by omega, by omega, by omega⟩ : LoopS w d v cb Ac Jb)
  have w14 : A8 w 14 = Mw 0 9 := by have := hRn.1.2.1; rw [ldM_z _ _ 9 (by omega)] at this; exact this
  have gB : ∀ k : Nat → Option AR, gR (CW c5 A5 J5) w 13 0 k = k (w + 1) := fun k => k_gR hW.1.1 hB k
  rw [fL_law_26, e1, if_pos ii_1, e2, if_pos ii_1, e3, if_pos ii_1, e4, if_pos ii_2, e5, if_pos ii_1, lkV hI.1, e6, k_C, q_I, if_pos ii_0, gB, e7, e8, k_Cl (c := c7) (c' := swp c8 pl sp) ⟨b8.1.1, b8.2.1.1, b8.2.2.1⟩, q_I, wdI14 hW8, w14, if_pos rfl, lkV hI8.1, e9, k_C, q_I, if_pos ii_0, lkV hI8.1, ea, k_C, q_I, if_pos (show ii (-1) = (-1 : Int32) from rfl), eb, k_Cl xb.le, q_I, if_neg (by decide), ec]
  exact hL
end STA
