/-! THE LAW'S TEXT: all of it, as the class reads it -/
section RDT
variable {c : CC} {A A' : AI} {J : JI} {b : Int → Int} {n : Int} {t : Tok} {ts : List Tok} {v : Int} {M : AI} {g : Int → Int} {sp : Nat} {s s1 s' : CT}
theorem rd_row (hRd : isReader c 1) (hS : isState c 338) (hPl : isPlan c sp) (hsp : sp = 377 ∨ sp = 381) (r nr : Int) (hr : 0 ≤ r ∧ r < M 0 3) (hnr : nr ≤ r) (h0 : cel g r 0 = 0) (vs : List Int) (hvl : vs.length < 100) {g' : Int → Int} (hb : blOK M r g vs g') (hL : LdS A J M g sp) (hT : TdI A nr) (hts : ∀ t us, ts = t :: us → t.1 ≠ 2) (hC : Cur A b n ((2, r) :: (vs.map (fun v => (2, v)) ++ ts))) : ∃ A', fX2_readRow 1 sp 338 (CW c A J) = some (Sum.inl none, CW c A' J) ∧ Cur A' b n ts ∧ LdS A' J M g' sp ∧ FL sp A A' ∧ TdI A' (r + 1) := by
  have h38 := hL.1.1.2.1
  have x1 : A sp 1 = M 0 3 := hL.2.1.1.2.1
  obtain ⟨A2, a2, hC2, f2⟩ := hC.num (J := J) hRd 0 (M 0 3 - 1) (by omega) (by omega)
  have t2 : A2 (1 + 2) r = 0 := by rw [f2 _ _ (by omega)]; exact hT r hnr hr.1 (by omega)
  have hL2 := hL.fa hsp f2
  have n338 : ∀ b : Nat, (b < 338 ∨ 373 ≤ b) → ¬ inS 338 b := fun b hb x => by unfold inS at x; omega
  have hL3 : LdS (up A2 (1 + 2) r 1) J M g sp := hL2.fr2 hsp (fun b z p q => up_n _ _ _ _ _ _ (by omega)) (fun _ _ _ => rfl) rfl rfl
  have hC3 : Cur (up A2 (1 + 2) r 1) b n (vs.map (fun v => (2, v)) ++ ts) := hC2.fr (fun z _ _ => up_n _ _ _ _ _ _ (by omega)) (fun z => up_n _ _ _ _ _ _ (by omega))
  obtain ⟨A4, a4, hC4, hL4, f4, t4⟩ := rd_rloop (c := c) (J := J) hRd hS hPl hsp r hr hts vs FU 0 g (up A2 (1 + 2) r 1) (by have := FU_e; omega) h0.symm hb hL3 hC3
  refine ⟨A4, ?_, hC4, hL4, (f2.fl.trans (fun b z p q r s => up_n _ _ _ _ _ _ (by omega))).trans f4, fun r2 x y z => ?_⟩
  · rw [fX2_readRow, rdI7 hRd, plI1 hPl, x1, il0, il1, il3, il8, ii_sub, rdV hRd, a2, k_C, q_I, if_neg (by rw [ii_lt _ _ (by omega)]; omega), if_pos (by rw [ii_lt _ _ (by omega)]; omega), rdR1 hRd, rdA2 hRd _ _ (by omega), t2, if_pos rfl, fX2_readRow_47, il0, il1, rdR1 hRd, rdU2 hRd _ _ _ (by omega), stR0 hS, stRow hS _ _ (by omega), a4]
  · rw [t4, up_n _ _ _ _ _ _ (by omega), f2 _ _ (by omega)]
    exact hT r2 (by omega) y z
theorem rd_line (hRd : isReader c 1) (hS : isState c 338) (hPl : isPlan c sp) (hsp : sp = 377 ∨ sp = 381) (l : Ln) (hl : lnOK s l s1) (hll : l.2.2.length < 100) (hL : LdS A J s.1 s.2.1 sp) (hT : TdI A s.2.2) (hts : ∀ t us, ts = t :: us → t.1 ≠ 2) (hC : Cur A b n (lnT l ++ ts)) (x : Int) (hx : 0 ≤ x ∧ x < 500) (f : Nat) : ∃ A', fX2_readText_23 (f + 1) 1 sp 338 (ii x) (CW c A J) = fX2_readText_23 f 1 sp 338 (ii (x + 1)) (CW c A' J) ∧ Cur A' b n ts ∧ LdS A' J s1.1 s1.2.1 sp ∧ FL sp A A' ∧ TdI A' s1.2.2 := by
  have hC0 : Cur A b n ((3, 0) :: (1, (lnW l : Int)) :: (2, l.2.1) :: (l.2.2.map (fun v => (2, v)) ++ ts)) := hC
  obtain ⟨A1, a1, hC1, f1⟩ := hC0.adv (J := J) hRd
  have hL1 := hL.fa hsp f1
  have hT1 := hT.fa f1
  obtain ⟨w28, w29, w30, -, -⟩ := w_lens
  have key : ∀ A', fX2_readLine 1 sp 338 (CW c A1 J) = some (Sum.inl none, CW c A' J) → fX2_readText_23 (f + 1) 1 sp 338 (ii x) (CW c A J) = fX2_readText_23 f 1 sp 338 (ii (x + 1)) (CW c A' J) := fun A' e => by
    rw [fX2_readText_23, show (500 : Int32) = ii 500 from rfl, if_neg (by rw [ii_le _ _ (by omega)]; omega), rdI3 hRd, hC0.e.1, if_pos ii_0, rdI6 hRd, hC0.k, if_pos (show ii 3 = (3 : Int32) from rfl), rdV hRd, a1, k_C, q_V, rdV hRd, e, k_C, q_V, ii_s, lt_q]
  have g0 : ∀ B, fX2_readKind 1 0 sp 338 (CW c B J) = fX2_readKind 1 (ii 0) sp 338 (CW c B J) := fun _ => rfl
  have g1 : ∀ B, fX2_readKind 1 1 sp 338 (CW c B J) = fX2_readKind 1 (ii 1) sp 338 (CW c B J) := fun _ => rfl
  rcases hl with ⟨l2, ⟨r1, r2, r3⟩, r4, r5, r6, r7⟩ | ⟨lm, v, lv, lb, l9, ln, ls⟩
  · have hW : lnW l = 1000030 := if_pos l2
    rw [hW] at hC1
    obtain ⟨A2, a2, hC2, f2⟩ := hC1.word (J := J) hRd 1000030 (by omega)
    obtain ⟨A3, a3, hC3, hL3, f3, t3⟩ := rd_row hRd hS hPl hsp l.2.1 s.2.2 ⟨r2, r3⟩ r1 r4 l.2.2 hll r7 (hL1.fa hsp f2) (hT1.fa f2) hts hC2
    refine ⟨A3, key A3 ?_, hC3, by rw [r5]; exact hL3, (f1.fl.trans f2.fl).trans f3, by rw [r6]; exact t3⟩
    have i28 := hC1.isN (c := c) (J := J) hRd 1000028 1000030 (by omega) (by omega)
    have i29 := hC1.isN (c := c) (J := J) hRd 1000029 1000030 (by omega) (by omega)
    rw [fX2_readLine, rdV hRd, i28, k_C, q_I, if_pos ii_0, rdV hRd, i29, k_C, q_I, if_pos ii_0, rdV hRd, a2, k_C, q_V, rdV hRd, a3, k_C, q_V]
  · rw [lv] at hC1
    have hC1' : Cur A1 b n ((1, (lnW l : Int)) :: (2, l.2.1) :: (2, v) :: ts) := hC1
    obtain ⟨A3, a3, hC3, hL3, f3, t3⟩ := rd_kind (c := c) (J := J) hRd hS hPl hsp l.1 l.2.1 v lm lb l9 ln hL1 hC1'
    have f13 := f1.fl (sp := sp) |>.trans f3
    have hT3 : TdI A3 s.2.2 := fun r2 x y z => by rw [t3]; exact hT1 r2 x y z
    rcases lm with lm | lm
    · have hW : lnW l = 1000028 := (if_neg (by omega)).trans (if_pos lm)
      rw [hW] at hC1'
      refine ⟨A3, key A3 ?_, hC3, by rw [ls]; exact hL3, f13, by rw [ls]; exact hT3⟩
      have i28 := hC1'.isW (c := c) (J := J) hRd 1000028 (by omega)
      rw [lm] at a3
      rw [fX2_readLine, rdV hRd, i28, k_C, q_I, if_neg (by decide), rdV hRd, g0, a3, k_C, q_V]
    · have hW : lnW l = 1000029 := (if_neg (by omega)).trans (if_neg (by omega))
      rw [hW] at hC1'
      refine ⟨A3, key A3 ?_, hC3, by rw [ls]; exact hL3, f13, by rw [ls]; exact hT3⟩
      have i28 := hC1'.isN (c := c) (J := J) hRd 1000028 1000029 (by omega) (by omega)
      have i29 := hC1'.isW (c := c) (J := J) hRd 1000029 (by omega)
      rw [lm] at a3
      rw [fX2_readLine, rdV hRd, i28, k_C, q_I, if_pos ii_0, rdV hRd, i29, k_C, q_I, if_neg (by decide), rdV hRd, g1, a3, k_C, q_V]
theorem lnTs_h : ∀ (ls : List Ln) (t : Tok) (us : List Tok), lnTs ls = t :: us → t.1 ≠ 2
  | [], t, us, h => by cases h
  | l :: ls, t, us, h => by
    have h : (3, 0) :: ((1, (lnW l : Int)) :: (2, l.2.1) :: l.2.2.map (fun v => (2, v)) ++ lnTs ls) = t :: us := h
    have := (List.cons.inj h).1
    rw [← this]
    decide
theorem rd_lines (hRd : isReader c 1) (hS : isState c 338) (hPl : isPlan c sp) (hsp : sp = 377 ∨ sp = 381) : ∀ (ls : List Ln) (f : Nat) (x : Int) (s : CT) (A : AI), ls.length < f → 0 ≤ x → x + ls.length ≤ 499 → Pth s ls s' → (∀ l, l ∈ ls → l.2.2.length < 100) → LdS A J s.1 s.2.1 sp → TdI A s.2.2 → Cur A b n (lnTs ls) → ∃ A', fX2_readText_23 f 1 sp 338 (ii x) (CW c A J) = some (Sum.inl (some (Value.int (ii (1)))), CW c A' J) ∧ (A' 1 3 = 0 ∧ A' 1 4 = -1) ∧ LdS A' J s'.1 s'.2.1 sp ∧ FL sp A A'
  | ls, 0, x, s, A, hf, hx0, hx, hp, hll, hL, hT, hC => by omega
  | [], f + 1, x, s, A, hf, hx0, hx, hp, hll, hL, hT, hC => by
    have hp : s' = s := hp
    have hx : x + 0 ≤ 499 := hx
    have hC : Cur A b n [] := hC
    have k0 := hC.k0
    refine ⟨A, ?_, hC.e, by rw [hp]; exact hL, fun _ _ _ _ _ _ => rfl⟩
    rw [fX2_readText_23, show (500 : Int32) = ii 500 from rfl, if_neg (by rw [ii_le _ _ (by omega)]; omega), rdI3 hRd, hC.e.1, if_pos ii_0, rdI6 hRd, k0, if_neg (by decide), fX2_readText_62, rdI6 hRd, k0, if_pos ii_0, fX2_readText_78, rdI3 hRd, hC.e.1, if_pos ii_0, rZ_1]
  | l :: ls, f + 1, x, s, A, hf, hx0, hx, hp, hll, hL, hT, hC => by
    obtain ⟨s1, hl, hp2⟩ := hp
    have hx : x + ((ls.length : Nat) + 1 : Nat) ≤ 499 := hx
    have hf : ls.length + 1 < f + 1 := hf
    have hC : Cur A b n (lnT l ++ lnTs ls) := hC
    obtain ⟨A1, a1, hC1, hL1, f1, t1⟩ := rd_line (c := c) (J := J) hRd hS hPl hsp l hl (hll l (List.mem_cons_self)) hL hT (lnTs_h ls) hC x (by omega) f
    obtain ⟨A2, a2, e2, hL2, f2⟩ := rd_lines hRd hS hPl hsp ls f (x + 1) s1 A1 (by omega) (by omega) (by omega) hp2 (fun l2 h => hll l2 (List.mem_cons_of_mem _ h)) hL1 t1 hC1
    exact ⟨A2, a1.trans a2, e2, hL2, f1.trans f2⟩
def hdT (s : Int → Int) (q : Int) : List Tok := [(1, ((1000026 : Nat) : Int)), (2, s 0), (2, s 1), (2, s 2), (2, s 3), (2, q), (3, 0), (1, ((1000027 : Nat) : Int)), (2, s 4), (2, s 5), (2, s 6)]
/-- the settings are in range -/
def hdOK (s : Int → Int) (q : Int) : Prop := ((10 ≤ s 0 ∧ s 0 ≤ 500) ∧ (1 ≤ s 1 ∧ s 1 ≤ 8) ∧ (1 ≤ s 2 ∧ s 2 ≤ 50) ∧ (0 ≤ s 3 ∧ s 3 ≤ 20)) ∧ (0 ≤ q ∧ q ≤ 20) ∧ (0 ≤ s 4 ∧ s 4 ≤ 9) ∧ (0 ≤ s 5 ∧ s 5 ≤ 9) ∧ (1 ≤ s 6 ∧ s 6 ≤ 999)
theorem rd_num (hRd : isReader c 1) (hPl : isPlan c sp) (hsp : sp = 377 ∨ sp = 381) (lo hi : Int) (hl : (-1000 ≤ lo ∧ lo ≤ 1000) ∧ -1000 ≤ hi ∧ hi ≤ 1000) (v : Int) (hv : lo ≤ v ∧ v ≤ hi) (a : Nat) (j : Int) (ha : a = sp ∨ a = 338) (h : Cur A b n ((2, v) :: ts)) : ∃ A1, fX2_takeNumber 1 (ii lo) (ii hi) (CW c A J) = some (Sum.inl (some (Value.int (ii (v)))), CW c A1 J) ∧ Cur (up A1 a j v) b n ts ∧ FAr A A1 := by
  obtain ⟨A1, a1, hC1, f1⟩ := h.num (J := J) hRd lo hi hl hv
  exact ⟨A1, a1, hC1.fr (fun z _ _ => up_n _ _ _ _ _ _ (by omega)) (fun z => up_n _ _ _ _ _ _ (by omega)), f1⟩
theorem rd_head (hRd : isReader c 1) (hS : isState c 338) (hPl : isPlan c sp) (hsp : sp = 377 ∨ sp = 381) (s : Int → Int) (q : Int) (hs : hdOK s q) (h : Cur A b n (hdT s q ++ ts)) : ∃ A', fX2_readHead 1 sp 338 (CW c A J) = some (Sum.inl none, CW c A' J) ∧ Cur A' b n ts ∧ (∀ j, 0 ≤ j → j < 7 → A' sp j = s j) ∧ A' 338 2 = q ∧ ∀ (b : Nat) (z : Int), ¬ (b = 1 ∧ 3 ≤ z) → ¬ (b = sp ∧ 0 ≤ z ∧ z < 7) → ¬ (b = 338 ∧ z = 2) → A' b z = A b z := by
  obtain ⟨⟨h0, h1, h2, h3⟩, hq, h4, h5, h6⟩ := hs
  have hC0 : Cur A b n ((1, ((1000026 : Nat) : Int)) :: (2, s 0) :: (2, s 1) :: (2, s 2) :: (2, s 3) :: (2, q) :: (3, 0) :: (1, ((1000027 : Nat) : Int)) :: (2, s 4) :: (2, s 5) :: (2, s 6) :: ts) := h
  obtain ⟨A1, a1, hC1, f1⟩ := hC0.word (J := J) hRd 1000026 (by omega)
  obtain ⟨A2, a2, hC2, f2⟩ := rd_num (J := J) hRd hPl hsp 10 500 (by omega) (s 0) h0 sp 0 (Or.inl rfl) hC1
  obtain ⟨A3, a3, hC3, f3⟩ := rd_num (J := J) hRd hPl hsp 1 8 (by omega) (s 1) h1 sp 1 (Or.inl rfl) hC2
  obtain ⟨A4, a4, hC4, f4⟩ := rd_num (J := J) hRd hPl hsp 1 50 (by omega) (s 2) h2 sp 2 (Or.inl rfl) hC3
  obtain ⟨A5, a5, hC5, f5⟩ := rd_num (J := J) hRd hPl hsp 0 20 (by omega) (s 3) h3 sp 3 (Or.inl rfl) hC4
  obtain ⟨A6, a6, hC6, f6⟩ := rd_num (J := J) hRd hPl hsp 0 20 (by omega) q hq 338 2 (Or.inr rfl) hC5
  obtain ⟨A7, a7, hC7, f7⟩ := hC6.semi (J := J) hRd
  obtain ⟨A8, a8, hC8, f8⟩ := hC7.word (J := J) hRd 1000027 (by omega)
  obtain ⟨A9, a9, hC9, f9⟩ := rd_num (J := J) hRd hPl hsp 0 9 (by omega) (s 4) h4 sp 4 (Or.inl rfl) hC8
  obtain ⟨Aa, aa, hCa, fa⟩ := rd_num (J := J) hRd hPl hsp 0 9 (by omega) (s 5) h5 sp 5 (Or.inl rfl) hC9
  obtain ⟨Ab, ab, hCb, fb⟩ := rd_num (J := J) hRd hPl hsp 1 999 (by omega) (s 6) h6 sp 6 (Or.inl rfl) hCa
  refine ⟨up Ab sp 6 (s 6), ?_, hCb, fun j x y => ?_, ?_, fun b z p r u => ?_⟩
  · have l : (10 : Int32) = ii 10 ∧ (500 : Int32) = ii 500 ∧ (1 : Int32) = ii 1 ∧ (8 : Int32) = ii 8 ∧ (50 : Int32) = ii 50 ∧ (0 : Int32) = ii 0 ∧ (20 : Int32) = ii 20 ∧ (9 : Int32) = ii 9 ∧ (999 : Int32) = ii 999 := ⟨rfl, rfl, rfl, rfl, rfl, rfl, rfl, rfl, rfl⟩
    obtain ⟨l10, l500, l1, l8, l50, l0, l20, l9, l999⟩ := l
    have stQ : ∀ (E : AI) (v : Int) (k : AS → Option AR), sI (CW c E J) 338 9 2 (ii v) k = k (CW c (up E 338 2 v) J) := fun E v k => stS2 hS v k
    rw [fX2_readHead, l10, l500, l1, l8, l50, l0, l20, l9, l999, rdV hRd, a1, k_C, q_V, rdV hRd, a2, k_C, q_I, plS0 hPl, rdV hRd, a3, k_C, q_I, plS1 hPl, rdV hRd, a4, k_C, q_I, plS2 hPl, rdV hRd, a5, k_C, q_I, plS3 hPl, rdV hRd, a6, k_C, q_I, stQ, rdV hRd, a7, k_C, q_V, rdV hRd, a8, k_C, q_V, rdV hRd, a9, k_C, q_I, plS4 hPl, rdV hRd, aa, k_C, q_I, plS5 hPl, rdV hRd, ab, k_C, q_I, plS6 hPl]
  · rcases (show j = 0 ∨ j = 1 ∨ j = 2 ∨ j = 3 ∨ j = 4 ∨ j = 5 ∨ j = 6 by omega) with rfl | rfl | rfl | rfl | rfl | rfl | rfl
    · rw [up_n _ _ _ _ _ _ (by omega), fb _ _ (by omega), up_n _ _ _ _ _ _ (by omega), fa _ _ (by omega), up_n _ _ _ _ _ _ (by omega), f9 _ _ (by omega), f8 _ _ (by omega), f7 _ _ (by omega), up_n _ _ _ _ _ _ (by omega), f6 _ _ (by omega), up_n _ _ _ _ _ _ (by omega), f5 _ _ (by omega), up_n _ _ _ _ _ _ (by omega), f4 _ _ (by omega), up_n _ _ _ _ _ _ (by omega), f3 _ _ (by omega), up_s]
    · rw [up_n _ _ _ _ _ _ (by omega), fb _ _ (by omega), up_n _ _ _ _ _ _ (by omega), fa _ _ (by omega), up_n _ _ _ _ _ _ (by omega), f9 _ _ (by omega), f8 _ _ (by omega), f7 _ _ (by omega), up_n _ _ _ _ _ _ (by omega), f6 _ _ (by omega), up_n _ _ _ _ _ _ (by omega), f5 _ _ (by omega), up_n _ _ _ _ _ _ (by omega), f4 _ _ (by omega), up_s]
    · rw [up_n _ _ _ _ _ _ (by omega), fb _ _ (by omega), up_n _ _ _ _ _ _ (by omega), fa _ _ (by omega), up_n _ _ _ _ _ _ (by omega), f9 _ _ (by omega), f8 _ _ (by omega), f7 _ _ (by omega), up_n _ _ _ _ _ _ (by omega), f6 _ _ (by omega), up_n _ _ _ _ _ _ (by omega), f5 _ _ (by omega), up_s]
    · rw [up_n _ _ _ _ _ _ (by omega), fb _ _ (by omega), up_n _ _ _ _ _ _ (by omega), fa _ _ (by omega), up_n _ _ _ _ _ _ (by omega), f9 _ _ (by omega), f8 _ _ (by omega), f7 _ _ (by omega), up_n _ _ _ _ _ _ (by omega), f6 _ _ (by omega), up_s]
    · rw [up_n _ _ _ _ _ _ (by omega), fb _ _ (by omega), up_n _ _ _ _ _ _ (by omega), fa _ _ (by omega), up_s]
    · rw [up_n _ _ _ _ _ _ (by omega), fb _ _ (by omega), up_s]
    · rw [up_s]
  · rw [up_n _ _ _ _ _ _ (by omega), fb _ _ (by omega), up_n _ _ _ _ _ _ (by omega), fa _ _ (by omega), up_n _ _ _ _ _ _ (by omega), f9 _ _ (by omega), f8 _ _ (by omega), f7 _ _ (by omega), up_s]
  · rw [up_n _ _ _ _ _ _ (by omega), fb _ _ (by omega), up_n _ _ _ _ _ _ (by omega), fa _ _ (by omega), up_n _ _ _ _ _ _ (by omega), f9 _ _ (by omega), f8 _ _ (by omega), f7 _ _ (by omega), up_n _ _ _ _ _ _ (by omega), f6 _ _ (by omega), up_n _ _ _ _ _ _ (by omega), f5 _ _ (by omega), up_n _ _ _ _ _ _ (by omega), f4 _ _ (by omega), up_n _ _ _ _ _ _ (by omega), f3 _ _ (by omega), up_n _ _ _ _ _ _ (by omega), f2 _ _ (by omega), f1 _ _ (by omega)]
/-- what the head tells -/
def hdM (s : Int → Int) : AI := fun b z => if b = 0 ∧ 2 ≤ z ∧ z ≤ 8 then s (z - 2) else 0
def hdG0 : Int → Int := gz (fun _ => 0)
def hdS (s : Int → Int) (q : Int) : CT := (hdM s, gu hdG0 0 q, 0)
theorem hdM_s (s : Int → Int) (j : Int) (h : 0 ≤ j ∧ j < 7) : hdM s 0 (j + 2) = s j := (if_pos ⟨rfl, by omega, by omega⟩).trans (by rw [show j + 2 - 2 = j by omega])
theorem hdM_0 (s : Int → Int) (b : Nat) (z : Int) (h : ¬ (b = 0 ∧ 2 ≤ z ∧ z ≤ 8)) : hdM s b z = 0 := if_neg h
theorem rd_text (hRd : isReader c 1) (hS : isState c 338) (hPl : isPlan c sp) (hsp : sp = 377 ∨ sp = 381) (x L : Int) (h2 : A 1 2 = L) (hL : 0 ≤ x ∧ x ≤ L ∧ L ≤ 500) (hby : ∀ k, 0 ≤ k → k < x → A (1 + 1) k = b k ∧ 0 ≤ b k ∧ b k ≤ 255) (st : Int → Int) (q : Int) (hs : hdOK st q) (ls : List Ln) (hp : Pth (hdS st q) ls s') (hll : ∀ l, l ∈ ls → l.2.2.length < 100) (hln : ls.length ≤ 100) (hT : Toks b x 0 (hdT st q ++ lnTs ls)) : ∃ A', fX2_readText 1 (ii x) sp 338 (CW c A J) = some (Sum.inl (some (Value.int (ii (1)))), CW c A' J) ∧ (A' 1 2 = 0 ∧ A' 1 3 = 0 ∧ A' 1 4 = -1) ∧ LdS A' J s'.1 s'.2.1 sp ∧ ∀ (b : Nat) (z : Int), b ≠ 1 → b ≠ 1 + 2 → (b < sp ∨ sp + 4 ≤ b) → ¬ inS 338 b → A' b z = A b z := by
  obtain ⟨A1, a1, ⟨a5, a2, a3, a4, a8⟩, a9, a10⟩ := c_start (c := c) (J := J) hRd x L h2 hL
  have hb1 : ∀ k, 0 ≤ k → k < x → A1 (1 + 1) k = b k ∧ 0 ≤ b k ∧ b k ≤ 255 := fun k u v => by rw [a10 (1 + 1) k (by omega) (by omega)]; exact hby k u v
  obtain ⟨A2, e2, ⟨y7, y6, y8, y9⟩, f2⟩ := c_adv (c := c) (J := J) hRd hb1 a5 (by omega) 0 a8 (by omega)
  have hT0 : sk b x 0 < x ∧ tokAt b x (sk b x 0) (1, ((1000026 : Nat) : Int)) := ⟨hT.1, hT.2.1⟩
  have hC2 : Cur A2 b x (hdT st q ++ lnTs ls) := ⟨⟨by rw [f2 1 5 (by omega)]; exact a5, by omega, fun k u v => by rw [f2 (1 + 1) k (by omega)]; exact hb1 k u v⟩, ⟨by rw [f2 1 3 (by omega)]; exact a3, by rw [f2 1 4 (by omega)]; exact a4⟩, 0, by omega, ⟨y7, y6⟩, fun _ => y8 (by have := hT0.2.1; omega), y9, hT⟩
  have n338 : ∀ b : Nat, (b < 338 ∨ 373 ≤ b) → ¬ inS 338 b := fun b hb x => by unfold inS at x; omega
  obtain ⟨A4, e4, s4, f4⟩ := s_clear (c := c) (A := up A2 sp 7 0) (J := J) (len := hdM st 2) (g := hdG0) hS (fun z a b => lo_gz _ z ⟨a, b⟩) rwZ_z
  have f42 : ∀ (b : Nat) (z : Int), ¬ inS 338 b → ¬ (b = sp ∧ z = 7) → A4 b z = A2 b z := fun b z p r => by rw [f4.1 b z p, up_n _ _ _ _ _ _ r]
  have hC4 : Cur A4 b x (hdT st q ++ lnTs ls) := hC2.fr (fun z _ _ => f42 1 z (n338 1 (by omega)) (by omega)) (fun z => f42 (1 + 1) z (n338 _ (by omega)) (by omega))
  obtain ⟨A5, e5, hC5, h5, q5, f5⟩ := rd_head (c := c) (J := J) hRd hS hPl hsp st q hs hC4
  have x7 : A5 sp 7 = 0 := by rw [f5 sp 7 (by omega) (by omega) (by omega), f4.1 sp 7 (n338 sp (by omega)), up_s]
  obtain ⟨⟨h0, h1, h2', h3⟩, hq, h4, h5b, h6⟩ := id hs
  have hK : HK A5 (hdM st) sp 7 := fun j u v => by
    rw [hdM_s st j ⟨u, v⟩]
    refine ⟨h5 j u v, ?_⟩
    rcases (show j = 0 ∨ j = 1 ∨ j = 2 ∨ j = 3 ∨ j = 4 ∨ j = 5 ∨ j = 6 by omega) with rfl | rfl | rfl | rfl | rfl | rfl | rfl
    · exact h0
    · exact h1
    · exact h2'
    · exact h3
    · exact h4
    · exact h5b
    · exact h6
  have hL5 : LdS A5 J (hdM st) (gu hdG0 0 q) sp := LdS.head (M := hdM st) (A := A4) hsp q hq s4 hK (hdM_0 _ _ _ (by omega)) x7 rfl rfl (fun k u v => by rw [hdM_0 _ _ _ (by omega), hdM_0 _ _ _ (by omega)]; omega) (fun b z y1 y2 => f5 b z (by unfold inS at y1; omega) (by unfold inS at y1; omega) y2) q5
  have hT5 : TdI A5 0 := fun r u v w => by rw [f5 _ _ (by omega) (by omega) (by omega), f42 _ _ (n338 _ (by omega)) (by omega), f2 _ _ (by omega)]; exact a9 r v w
  obtain ⟨A6, e6, k6, hL6, f6⟩ := rd_lines (c := c) (J := J) hRd hS hPl hsp ls FU 0 (hdS st q) A5 (by have := FU_e; omega) (by omega) (by omega) hp hll hL5 hT5 hC5
  refine ⟨A6, ?_, ⟨?_, k6⟩, hL6, fun b z p r u w => ?_⟩
  · rw [fX2_readText, rdV hRd, a1, fX2_startText_53, rdV hRd, e2, k_C, q_V, k_C, q_V, il0, plS7 hPl, stV hS, e4, k_C, q_V, rdV hRd, e5, k_C, q_V, e6]
  · rw [f6 1 2 (by omega) (by omega) (by omega) (n338 1 (by omega)), f5 1 2 (by omega) (by omega) (by omega), f42 1 2 (n338 1 (by omega)) (by omega), f2 1 2 (by omega)]; exact a2
  · rw [f6 b z (by omega) r u w, f5 b z (by omega) (by omega) (fun y => w (by rw [y.1]; unfold inS; omega)), f42 b z w (by omega), f2 b z (by omega)]
    exact a10 b z p r
end RDT
