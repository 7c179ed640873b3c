/-! THE LAW: builders of its own, beside its state -/
section BLD
variable {c c0 c' c2 : CC} {A A0 A' A2 : AI} {J J0 J' J2 : JI} {tv cap : Nat} {p p' : TP}
theorem u_appSA {B : Nat} (h : TG c A B tv cap p) (w : Nat) (hw : 1000026 ≤ w ∧ w < 1000045) (hp : p.1 ≤ 2900) : ∃ (c' : CC) (A' : AI) (J' : JI) (tv' cap' : Nat), fJ4_append_15ec4 B w (CW c A J) = some (.inl (some (.ref B)), CW c' A' J') ∧ TG c' A' B tv' cap' (tS w p) ∧ GLb B c c' cap cap' A A' J J' ∧ (cap' ≤ cap ∨ (cap' : Int) ≤ 2 * (p.1 + (wlen w : Nat))) := by
  have hk := h.1
  have b3 := h.2.1.1
  have b0 := h.2.2.1.1
  obtain ⟨⟨w7, -⟩, wby⟩ := w_k45 w hw
  obtain ⟨c', A', J', tv', cap', e1, ⟨hk', ⟨a3, a1⟩, ⟨l0, l1, l2, l3, l4⟩, ht, hb⟩, hm, hL, hcb⟩ := u_ensB (J := J) h (p.1 + (wlen w : Nat)) (by omega)
  have hne : tv' ≠ B := hk'.2.2.2
  have hpu := u_put (J := J') hk' a1 w hw p.1 (by omega)
  have c3 : cpW A' w tv' p.1 B 3 = p.1 := by rw [cpW_n _ _ _ _ _ _ (fun e => hne e.symm)]; exact a3
  have hap : fJ5_append_cf1ce B w (CW c A J) = some (.inl (some (.ref B)), CW c' (up (cpW A' w tv' p.1) B 3 (p.1 + (wlen w : Nat))) J') := by
    rw [fJ5_append_cf1ce, w_len45 w hw, vbI3 hk, b3, ii_add, vbV hk, e1, k_Cl hL.1, q_V, vbI3 hk', a3, vbV hk', hpu, k_C, q_V, vbI3 hk', c3, ii_add, vbS3 hk']
  have h15 : fJ4_append_15ec4 B w (CW c A J) = some (.inl (some (.ref B)), CW c' (up (cpW A' w tv' p.1) B 3 (p.1 + (wlen w : Nat))) J') := by
    rw [fJ4_append_15ec4, vbV hk, hap, k_Cl hL.1, q_R]
  refine ⟨c', up (cpW A' w tv' p.1) B 3 (p.1 + (wlen w : Nat)), J', tv', cap', ?_, ⟨hk', ⟨up_s _ _ _ _, ?_⟩, ⟨by show 0 ≤ p.1 + _; omega, by show p.1 + _ ≤ _; omega, l2, l3, l4⟩, fun k a b => ?_, fun k a b => ?_⟩, ⟨hL.1, hL.2.1, hL.2.2.1, fun b z q w e => ?_, hL.2.2.2.2⟩, hcb⟩
  · exact h15
  · rw [up_n _ _ _ _ _ _ (by omega), cpW_n _ _ _ _ _ _ (fun e => hne e.symm)]; exact a1
  · have b' : k < p.1 + (wlen w : Nat) := b
    rw [up_n _ _ _ _ _ _ (fun e => hne e.1)]
    show (if tv' = tv' ∧ p.1 ≤ k ∧ k < p.1 + (wlen w : Nat) then wb w (k - p.1).toNat else A' tv' k) = if p.1 ≤ k ∧ k < p.1 + (wlen w : Nat) then wb w (k - p.1).toNat else p.2 k
    by_cases q : p.1 ≤ k
    · rw [if_pos ⟨rfl, q, b'⟩, if_pos ⟨q, b'⟩]
    · rw [if_neg (fun z => q z.2.1), if_neg (fun z => q z.1)]
      exact ht k a (by omega)
  · rw [up_n _ _ _ _ _ _ (fun e => hne e.1)]
    unfold cpW
    split
    case isTrue q => exact (wby _ (by omega)).1
    case isFalse q => exact hb k a b
  · have hbt := GLb.ne_tv hL hk' q e
    rw [up_n _ _ _ _ _ _ (fun x => w x.1), cpW_n _ _ _ _ _ _ hbt]; exact hL.2.2.2.1 b z q w e
end BLD
/-- a builder of the law's own, and what it made -/
def BX (k m : Nat) (c0 c : CC) (A0 A : AI) (J0 J : JI) (B tvb capb : Nat) (p : TP) : Prop := LX (k + capb) (m + 2 * capb) c0 c A0 A J0 J ∧ TG c A B tvb capb p ∧ (c0.2.2.1 ≤ B ∧ c0.2.2.1 ≤ tvb) ∧ (capb : Int) ≤ 23 + 2 * p.1
section BXS
variable {C0 N0 n : Nat} {c c0 c' c2 : CC} {A A0 A' A2 : AI} {J J0 J' J2 : JI} {M : AI} {g o : Int → Int} {pl sp tv cap tv' cap' B tvb capb tvb' capb' k m w d : Nat} {p p' : TP} {q : Int}
theorem BX.glb (h : BX k m c0 c A0 A J0 J B tvb capb p) (hT : TG c' A' B tvb' capb' p') (hG : GLb B c c' capb capb' A A' J J') (hc : capb' ≤ capb ∨ (capb' : Int) ≤ 2 * p'.1) (hp : p.1 ≤ p'.1) : BX k m c0 c' A0 A' J0 J' B tvb' capb' p' := by
  obtain ⟨⟨⟨x1, x2, x3⟩, xz, xf, xj⟩, hT0, ⟨hB, ht⟩, hc0⟩ := h
  obtain ⟨g1, g2, ⟨g3, g4⟩, g5, g6, g7⟩ := hG
  have hBt : c.1 B 0 = some tvb := hT0.1.2.1
  have p0 := hT0.2.2.1.1
  refine ⟨⟨⟨by omega, fun a q => (g3 a (by omega)).trans (x2 a q), fun a j q => (g4 a j (by omega) (by omega)).trans (x3 a j q)⟩, by omega, fun b z q s => (g5 b z (by omega) (by omega) (by rw [hBt]; intro e; cases e; omega)).trans (xf b z q s), fun b j q s => (g6 b j (by omega)).trans (xj b j q s)⟩, hT, ⟨hB, ?_⟩, ?_⟩
  · have hB' : c'.1 B 0 = some tvb' := hT.1.2.1
    rcases g7 with y | ⟨t, ht2, y⟩
    · rw [hB', hBt] at y
      cases y
      exact ht
    · rw [hB'] at y
      cases y
      omega
  · rcases hc with y | y <;> omega
theorem BX.cV (h : BX k m c0 c A0 A J0 J B tvb capb p) (x : Option AR) (g : Option Value → AS → Option AR) : cV (CW c A J) B 1 x g = cS (CW c A J) x g := k_V h.2.1.1.1 x g
/-- a byte goes on -/
theorem k_bA (h : BX k m c0 c A0 A J0 J B tvb capb p) (ch : Int) (hc : 0 ≤ ch ∧ ch ≤ 127) (hp : p.1 ≤ 2900) {x : Int32} (hx : x = ii ch) : ∃ (c' : CC) (A' : AI) (J' : JI) (tvb' capb' : Nat), (∀ K : Nat → AS → Option AR, cV (CW c A J) B 1 (fJ4_append_cf468 B x (CW c A J)) (qR K) = K B (CW c' A' J')) ∧ BX k m c0 c' A0 A' J0 J' B tvb' capb' (tC ch p) := by
  obtain ⟨c', A', J', tvb', capb', e1, e2, e3, e4⟩ := u_appB (J := J) h.2.1 ch hc (by omega)
  refine ⟨c', A', J', tvb', capb', fun K => ?_, h.glb e2 e3 (by rw [tC_1]; exact e4) (by rw [tC_1]; omega)⟩
  rw [hx, h.cV, e1, k_Cl e3.1, q_R]
/-- a number goes on -/
theorem k_bN (h : BX k m c0 c A0 A J0 J B tvb capb p) (v : Int) (hv : 0 ≤ v ∧ v < 10000) (hp : p.1 ≤ 2900) : ∃ (c' : CC) (A' : AI) (J' : JI) (tvb' capb' : Nat), (∀ K : Nat → AS → Option AR, cV (CW c A J) B 1 (fJ4_append_bf812 B (ii v) (CW c A J)) (qR K) = K B (CW c' A' J')) ∧ BX k m c0 c' A0 A' J0 J' B tvb' capb' (tN v p) := by
  obtain ⟨c', A', J', tvb', capb', e1, e2, e3, e4⟩ := u_numB (J := J) h.2.1 v hv (by omega)
  have := nd_b v
  refine ⟨c', A', J', tvb', capb', fun K => ?_, h.glb e2 e3 (by rw [tN_1]; exact e4) (by rw [tN_1]; omega)⟩
  rw [h.cV, e1, k_Cl e3.1, q_R]
/-- a word goes on -/
theorem k_bS (h : BX k m c0 c A0 A J0 J B tvb capb p) (x : Nat) (hx : 1000026 ≤ x ∧ x < 1000045) (hp : p.1 ≤ 2900) : ∃ (c' : CC) (A' : AI) (J' : JI) (tvb' capb' : Nat), (∀ K : Nat → AS → Option AR, cV (CW c A J) B 1 (fJ4_append_15ec4 B x (CW c A J)) (qR K) = K B (CW c' A' J')) ∧ BX k m c0 c' A0 A' J0 J' B tvb' capb' (tS x p) := by
  obtain ⟨c', A', J', tvb', capb', e1, e2, e3, e4⟩ := u_appSA (J := J) h.2.1 x hx hp
  refine ⟨c', A', J', tvb', capb', fun K => ?_, h.glb e2 e3 e4 (by show p.1 ≤ p.1 + _; omega)⟩
  rw [h.cV, e1, k_Cl e3.1, q_R]
/-- a builder is made -/
theorem k_bI (hz : c.2.2.1 + 10 < 900000) : ∃ (c' : CC) (A' : AI) (J' : JI) (tvb capb : Nat), (∀ K : Nat → AS → Option AR, nO (CW c A J) 1 4 (fun q1 s2 => cS s2 (fJ4_init_da8c8 q1 s2) (qV (fun s3 => K q1 s3))) = K c.2.2.1 (CW c' A' J')) ∧ BX 2 27 c c' A A' J J' c.2.2.1 tvb capb tP0 := by
  have z1 : (nwC c 1 4).2.2.1 = c.2.2.1 + 1 := rfl
  have z2 : (nwC c 1 4).2.2.2.1 = c.2.2.2.1 + 1 := rfl
  have z3 : (nwC c 1 4).2.2.2.2 = c.2.2.2.2 + 4 := rfl
  have x0 := exc.new c 1 4
  obtain ⟨c', A', J', tvb, capb, e1, e2, ⟨e3, ⟨e4, e4b⟩, e5, e6⟩, e7, e8⟩ := u_init0 (c := nwC c 1 4) (A := nwA c A) (J := nwJ c J) (B := c.2.2.1) ⟨Nat.lt_succ_self _, if_pos rfl⟩ (if_pos rfl) (by rw [z1, zB_e]; omega)
  have le1 : (nwC c 1 4).2.2.1 ≤ c'.2.2.1 ∧ (nwC c 1 4).2.2.2.1 ≤ c'.2.2.2.1 ∧ (nwC c 1 4).2.2.2.2 ≤ c'.2.2.2.2 := by omega
  refine ⟨c', A', J', tvb, capb, fun K => ?_, ⟨⟨by omega, fun a q => (e4 a (by omega)).trans (x0.2.1 a q), fun a j q => (e4b a j (by omega) (by omega)).trans (x0.2.2 a j q)⟩, by omega, fun b z q _ => (e5 b z (by omega) (by omega)).trans (if_neg (by omega)), fun b j q _ => (e6 b j (by omega)).trans (if_neg (by omega))⟩, e2, ⟨Nat.le_refl _, by omega⟩, by show (capb : Int) ≤ 23 + 2 * 0; omega⟩
  rw [k_nO _ (by omega), e1, k_Cl le1, q_V]
/-- the bytes of a builder's text -/
theorem BX.by (h : BX k m c0 c A0 A J0 J B tvb capb p) (i : Int) (h0 : 0 ≤ i) (h1 : i < p.1) : 0 ≤ p.2 i ∧ p.2 i ≤ 127 := by
  have := h.2.1.2.2.2.2 i h0 (by have := h.2.1.2.2.1.2.1; omega)
  rw [h.2.1.2.2.2.1 i h0 h1] at this
  exact this
theorem NC.lx (h : NC c c' A A' J J') (hz : c'.2.2.1 = c.2.2.1 + 2 ∧ c'.2.2.2.1 = c.2.2.2.1 + 2 ∧ c'.2.2.2.2 = c.2.2.2.2 + m) : LX 2 m c c' A A' J J' := ⟨h.1, by omega, fun b z q _ => h.2.2.1 b z q, fun b j q _ => h.2.2.2 b j q⟩
/-- a String is made of it -/
theorem k_bT (h : BX k m c0 c A0 A J0 J B tvb capb p) (hz : c.2.2.1 + 2 < 1000000) : ∃ (c' : CC) (A' : AI) (J' : JI), (∀ K : Nat → AS → Option AR, cV (CW c A J) B 1 (fJ4_toString_0e30d B (CW c A J)) (qR K) = K c.2.2.1 (CW c' A' J')) ∧ isStr c' A' c.2.2.1 p.1.toNat p.2 ∧ LX 2 (4 + p.1.toNat) c c' A A' J J' ∧ c'.2.2.1 = c.2.2.1 + 2 := by
  obtain ⟨c', A', J', e1, e2, e3, e4⟩ := u_str (J := J) h.2.1 hz (fun i a b => h.by i a b)
  have x := NC.lx (m := 4 + p.1.toNat) e3 (by omega)
  refine ⟨c', A', J', fun K => ?_, e2, x, e4.1⟩
  rw [h.cV, e1, k_Cl x.le, q_R]
/-- the class's text changes nothing of the law's -/
theorem TG.tl (h : TG c A B tvb capb p) (hL : TL c c' cap cap' A A' J J') (h3 : c.1 375 0 = some tv) (hB : B ≠ 375 ∧ B ≠ tv ∧ tvb ≠ 375 ∧ tvb ≠ tv) (hz : c'.2.2.1 ≤ zB + capb) : TG c' A' B tvb capb p := by
  obtain ⟨⟨t1, t2, t3, t4⟩, t5, ⟨t6, t7, t8, t9, t10⟩, t11, t12⟩ := h
  obtain ⟨g1, g2, ⟨g3, g4⟩, g5, g6, g7⟩ := hL.2.2.2.2
  have eB : ∀ z : Int, A' B z = A B z := fun z => g5 B z t1.1 hB.1 (by rw [h3]; intro e; cases e; exact hB.2.1 rfl)
  have eT : ∀ z : Int, A' tvb z = A tvb z := fun z => g5 tvb z t3.1 hB.2.2.1 (by rw [h3]; intro e; cases e; exact hB.2.2.2 rfl)
  refine ⟨⟨⟨Nat.lt_of_lt_of_le t1.1 g1.1, (g3 _ t1.1).trans t1.2⟩, (g4 _ _ t1.1 hB.1).trans t2, ⟨Nat.lt_of_lt_of_le t3.1 g1.1, (g3 _ t3.1).trans t3.2⟩, t4⟩, by rw [eB, eB]; exact t5, ⟨t6, t7, t8, t9, hz⟩, fun k a b => by rw [eT]; exact t11 k a b, fun k a b => by rw [eT]; exact t12 k a b⟩
theorem isStr.tl {s L : Nat} {t : Int → Int} (h : isStr c A s L t) (hL : TL c c' cap cap' A A' J J') (h3 : c.1 375 0 = some tv) (hs : 375 < s ∧ s ≠ tv ∧ s + 1 ≠ tv) : isStr c' A' s L t := by
  obtain ⟨⟨t1, t2, t3⟩, t4, t5⟩ := h
  obtain ⟨g1, g2, ⟨g3, g4⟩, g5, g6, g7⟩ := hL.2.2.2.2
  have eB : ∀ z : Int, A' s z = A s z := fun z => g5 s z t1.1 (by omega) (by rw [h3]; intro e; cases e; exact hs.2.1 rfl)
  have eT : ∀ z : Int, A' (s + 1) z = A (s + 1) z := fun z => g5 _ z t3.1 (by omega) (by rw [h3]; intro e; cases e; exact hs.2.2 rfl)
  exact ⟨⟨⟨Nat.lt_of_lt_of_le t1.1 g1.1, (g3 _ t1.1).trans t1.2⟩, (g4 _ _ t1.1 (by omega)).trans t2, ⟨Nat.lt_of_lt_of_le t3.1 g1.1, (g3 _ t3.1).trans t3.2⟩⟩, by rw [eB]; exact t4, fun k a b => by rw [eT]; exact t5 k a b⟩
theorem isStr.lx {s L : Nat} {t : Int → Int} (h : isStr c A s L t) (hs : 373 ≤ s) (hx : LX k m c c' A A' J J') : isStr c' A' s L t := by
  obtain ⟨⟨t1, t2, t3⟩, t4, t5⟩ := h
  have eB : ∀ z : Int, A' s z = A s z := fun z => hx.2.2.1 s z t1.1 (fun y => by have := scC_lt y; omega)
  have eT : ∀ z : Int, A' (s + 1) z = A (s + 1) z := fun z => hx.2.2.1 _ z t3.1 (fun y => by have := scC_lt y; omega)
  exact ⟨⟨okc_x t1 hx.1, ptr_x t1 t2 hx.1, okc_x t3 hx.1⟩, by rw [eB]; exact t4, fun k a b => by rw [eT]; exact t5 k a b⟩
/-- the law's state, behind a text of the class's -/
theorem LwD.txt {t : TP} (h : LwD C0 N0 n pl sp tv cap c A J M g w d q) (hI : Inv C0 N0 n pl sp tv' cap' c' A' J' (txM M t) g) (hL : TL c c' cap cap' A A' J J') : LwD C0 N0 n pl sp tv' cap' c' A' J' (txM M t) g w d q := by
  have hpl := h.plE
  obtain ⟨⟨hI0, ⟨hl, h0⟩, ⟨hW, hR⟩, hw, h4, h120⟩, ⟨hd, hd2, hd3⟩, ht, hq⟩ := h
  have h38 := (hI0.li hl).1.1.2.1
  have kp := txM_K M t
  obtain ⟨g1, g2, ⟨g3, g4⟩, g5, g6, g7⟩ := id hL.2.2.2.2
  have h3 : c.1 375 0 = some tv := hI0.1.2.2.2.2.1.2.1
  have hne : ∀ b, w ≤ b → b < w + 32 → c.1 375 0 ≠ some b := fun b x y e => by rw [h3] at e; cases e; omega
  have hf : ∀ (b : Nat) (z : Int), inW w b → A' b z = A b z := fun b z hb => by
    unfold inW at hb
    exact g5 b z (by omega) (by omega) (hne b hb.1 hb.2)
  have hdtv : d ≠ tv := fun y => by
    have t1 := hI0.1.2.2.2.2.1.2.2.1.2
    rw [← y, hd.1.2] at t1
    exact absurd (congrArg Prod.fst t1) (by decide : ¬ (11 : Nat) = 103)
  have ed : A' d 1 = A d 1 := g5 d 1 hd.1.1 (by omega) (by rw [h3]; intro e; cases e; exact hdtv rfl)
  have eo : A' (pl + 3) = A (pl + 3) := funext fun z => hL.2.2.1 _ z (by omega)
  have okx : ∀ {a t n : Nat}, okc c a t n → okc c' a t n := fun o => ⟨Nat.lt_of_lt_of_le o.1 g1.1, (g3 _ o.1).trans o.2⟩
  have ptx : ∀ {a j x : Nat}, a < c.2.2.1 → 375 < a → ptr c a j x → ptr c' a j x := fun ha hb e => (g4 _ _ ha (by omega)).trans e
  have hW' : isWorld c' w := by
    obtain ⟨⟨a0, a3, a4, a5, a6, a7, a8, a9, a18, a27, a28, a29, a30, a31⟩, ⟨b1, b2, b3, b4, b5, b6, b7, b8, b9, b10, b11, b12, b13⟩, hr⟩ := hW
    have hw1 : 375 < w := by omega
    refine ⟨⟨okx a0, okx a3, okx a4, okx a5, okx a6, okx a7, okx a8, okx a9, okx a18, okx a27, okx a28, okx a29, okx a30, okx a31⟩, ⟨ptx a0.1 hw1 b1, ptx a0.1 hw1 b2, ptx a0.1 hw1 b3, ptx a0.1 hw1 b4, ptx a0.1 hw1 b5, ptx a0.1 hw1 b6, ptx a0.1 hw1 b7, ptx a0.1 hw1 b8, ptx a0.1 hw1 b9, ptx a0.1 hw1 b10, ptx a0.1 hw1 b11, ptx a0.1 hw1 b12, ptx a0.1 hw1 b13⟩, fun r p1 p2 => ?_⟩
    obtain ⟨⟨r1, r2⟩, r3, r4⟩ := hr r p1 p2
    exact ⟨⟨ptx a9.1 (by omega) r1, okx r2⟩, ptx a18.1 (by omega) r3, okx r4⟩
  have hnt : ∀ b, w ≤ b → b < w + 32 → b ≠ tv' := fun b x y => GLb.ne_tv hL.2.2.2.2 (tv' := tv') (cap' := cap') hI.1.sb (by omega) (hne b x y)
  refine ⟨⟨hI, ⟨(kp.1 1 (by omega) (by omega)).trans hl, (kp.1 0 (by omega) (by omega)).trans h0⟩, ⟨hW', ?_⟩, ⟨hw.1, by have := g1.1; omega⟩, ?_, ?_⟩, ⟨⟨okx hd.1, ptx hd.1.1 (by omega) hd.2⟩, hd2, hd3⟩, ?_, ?_, hq.2⟩
  · rw [eo]
    exact (hR.fr hf h38.2).kp kp
  · rw [kp.1 9 (by omega) (by omega)]; exact h4
  · rw [kp.1 2 (by omega) (by omega)]; exact h120
  · by_cases y : tv' < w
    · exact Or.inl y
    · refine Or.inr ?_
      by_cases z : w + 32 ≤ tv'
      · exact z
      · exact absurd rfl (hnt tv' (by omega) (by omega))
  · rw [ed]; exact hq.1
end BXS
