/-! THE LAW: its text, told -/
section TEL
variable {C0 N0 n : Nat} {c c' : CC} {A A' : AI} {J J' : JI} {M : AI} {g : Int → Int} {pl sp tv cap q m w d : Nat} {t : Int → Int}
/-- nothing but the reader's cells and new ones is other -/
abbrev FE (k m : Nat) (c c' : CC) (A A' : AI) (J J' : JI) : Prop := exc c c' ∧ GRo c c' k m ∧ (∀ (b : Nat) (z : Int), b < c.2.2.1 → 455 ≤ b → A' b z = A b z) ∧ ∀ b j : Nat, b < c.2.2.1 → 455 ≤ b → J' b j = J b j
theorem isStr.fe {k k2 s L : Nat} (h : isStr c A s L t) (hs : 455 ≤ s) (hx : FE k k2 c c' A A' J J') : isStr c' A' s L t := by
  obtain ⟨⟨t1, t2, t3⟩, t4, t5⟩ := h
  have eB : ∀ z : Int, A' s z = A s z := fun z => hx.2.2.1 s z t1.1 hs
  have eT : ∀ z : Int, A' (s + 1) z = A (s + 1) z := fun z => hx.2.2.1 _ z t3.1 (by omega)
  exact ⟨⟨okc_x t1 hx.1, ptr_x t1 t2 hx.1, okc_x t3 hx.1⟩, by rw [eB]; exact t4, fun k a b => by rw [eT]; exact t5 k a b⟩
theorem FE.trans {k1 k2 m1 m2 : Nat} {c2 : CC} {A2 : AI} {J2 : JI} (h : FE k1 m1 c c' A A' J J') (h2 : FE k2 m2 c' c2 A' A2 J' J2) : FE (k1 + k2) (m1 + m2) c c2 A A2 J J2 := by
  obtain ⟨a1, a2, a3, a4⟩ := h
  obtain ⟨b1, b2, b3, b4⟩ := h2
  have := a1.1
  exact ⟨a1.trans b1, by omega, fun b z x y => (b3 b z (by omega) y).trans (a3 b z x y), fun b j x y => (b4 b j (by omega) y).trans (a4 b j x y)⟩
/-- the class's model, but for what its buffer holds -/
abbrev FB (M M' : AI) : Prop := (∀ z, z ≠ 18 → M' 0 z = M 0 z) ∧ ∀ b : Nat, 0 < b → b ≠ 7 → M' b = M b
theorem n_feeds (hI : Inv C0 N0 n pl sp tv cap c A J M g) (h18 : M 0 18 = 0) (hs : isStr c A q m t) (hq : 455 ≤ q) (hm : m ≤ 480) (hro : RO C0 N0 n cap c 30 150) : ∃ (c' : CC) (A' : AI) (J' : JI) (M' : AI) (n' : Nat), fL_feeds 0 q (CW c A J) = some (Sum.inl (some (Value.int (ii (1)))), CW c' A' J') ∧ Inv C0 N0 n' pl sp tv cap c' A' J' M' g ∧ (n ≤ n' ∧ n' ≤ n + 25) ∧ (m ≤ M' 0 18 ∧ M' 0 18 ≤ 500 ∧ ∀ k : Int, 0 ≤ k → k < m → M' 7 k = t k) ∧ FB M M' ∧ FE 25 125 c c' A A' J J' := by
  rw [fL_feeds, show (0 : Int32) = ii (20 * 0) from rfl]
  refine lp (fun f j (s : CC × AI × JI) => fL_feeds_2 f 0 q (ii (20 * j)) (CW s.1 s.2.1 s.2.2)) (fun x => ∃ (c' : CC) (A' : AI) (J' : JI) (M' : AI) (n' : Nat), x = some (Sum.inl (some (Value.int (ii (1)))), CW c' A' J') ∧ Inv C0 N0 n' pl sp tv cap c' A' J' M' g ∧ (n ≤ n' ∧ n' ≤ n + 25) ∧ (m ≤ M' 0 18 ∧ M' 0 18 ≤ 500 ∧ ∀ k : Int, 0 ≤ k → k < m → M' 7 k = t k) ∧ FB M M' ∧ FE 25 125 c c' A A' J J')
    (fun j s => 0 ≤ j ∧ ∃ M1 : AI, Inv C0 N0 (n + j.toNat) pl sp tv cap s.1 s.2.1 s.2.2 M1 g ∧ M1 0 18 = 20 * j ∧ (∀ k : Int, 0 ≤ k → k < 20 * j → k < m → M1 7 k = t k) ∧ FB M M1 ∧ FE j.toNat (5 * j.toNat) c s.1 A s.2.1 J s.2.2) (((m : Int) + 19) / 20) ?_ ?_ FU 0 (c, A, J) (by omega) ⟨by omega, M, hI, by rw [h18]; rfl, fun k a b => by omega, ⟨fun _ _ => rfl, fun _ _ _ => rfl⟩, exc.refl c, by dsimp only; omega, fun _ _ _ _ => rfl, fun _ _ _ _ => rfl⟩ (by have := FU_e; omega)
  · rintro f j ⟨c1, A1, J1⟩ hj ⟨hj0, M1, hI1, h181, hB1, hF1, hE1⟩
    dsimp only at hI1 hE1 ⊢
    have e1 := hE1.2.1
    have hs1 := hs.fe hq hE1
    have hln := s_len (J := J1) hs1
    have hz1 := hs1.1.2.2.1
    obtain ⟨ch, hch⟩ : ∃ ch : Int → Int, ch = fun k => if 0 ≤ k ∧ 20 * j + k < m then t (20 * j + k) else 32 := ⟨_, rfl⟩
    have hcb : ∀ k, 0 ≤ ch k ∧ ch k ≤ 127 := fun k => by
      rw [hch]
      dsimp only
      split
      · rename_i h
        exact (hs1.2.2 _ (by omega) h.2).2
      · omega
    have hch2 : ∀ k, 0 ≤ k → ch k = if 20 * j + k < m then t (20 * j + k) else 32 := fun k hk => by
      rw [hch]
      dsimp only
      by_cases y : 20 * j + k < m
      · rw [if_pos ⟨hk, y⟩, if_pos y]
      · rw [if_neg (fun x => y x.2), if_neg y]
    have o1 : okc (nwC c1 100 5) c1.2.2.1 100 5 := ⟨Nat.lt_succ_self _, if_pos rfl⟩
    have z1 : (nwC c1 100 5).2.2.1 = c1.2.2.1 + 1 := rfl
    have z2 : (nwC c1 100 5).2.2.2.1 = c1.2.2.2.1 + 1 := rfl
    have z3 : (nwC c1 100 5).2.2.2.2 = c1.2.2.2.2 + 5 := rfl
    have hs2 : isStr (nwC c1 100 5) (nwA c1 A1) q m t := ⟨⟨okc_x hs1.1.1 (exc.new _ _ _), ptr_x hs1.1.1 hs1.1.2.1 (exc.new _ _ _), okc_x hs1.1.2.2 (exc.new _ _ _)⟩, by rw [show nwA c1 A1 q 1 = A1 q 1 from if_neg (by omega)]; exact hs1.2.1, fun k a b => by rw [show nwA c1 A1 (q + 1) k = A1 (q + 1) k from if_neg (by omega)]; exact hs1.2.2 k a b⟩
    obtain ⟨A2, e2, w2, f2⟩ := n_words (c' := c1) (J := nwJ c1 J1) hs2 (20 * j) (by omega) o1 hz1 ch hch2 hcb (fun z => if_pos rfl) (fL_feeds_2 f)
    have x2 : LX 1 5 c1 (nwC c1 100 5) A1 A2 J1 (nwJ c1 J1) := ⟨exc.new _ _ _, by omega, fun b y h _ => (f2 b y (by omega)).trans (if_neg (by omega)), fun b y h _ => if_neg (by omega)⟩
    have hI2 := hI1.lx x2 (by omega) (by omega) (by omega)
    obtain ⟨A3, e3, hI3, f3⟩ := d_append hI2 (20 * j) ⟨h181, by omega⟩ ch hcb
    have e5 : (j + 1).toNat = j.toNat + 1 := by omega
    have xE : FE 1 5 c1 (nwC c1 100 5) A1 A3 J1 (nwJ c1 J1) := ⟨exc.new _ _ _, x2.gro, fun b y h h2 => (f3 b y (by omega) (by omega)).trans (x2.2.2.1 b y h (fun s => by have := scC_lt s; omega)), fun b y h _ => if_neg (by omega)⟩
    refine Or.inr ⟨(nwC c1 100 5, A3, nwJ c1 J1), ⟨by omega, apM M1 (20 * j) ch, ?_, ?_, fun k a b y => ?_, ⟨fun z h => ?_, fun b h h7 => funext fun z => ?_⟩, ?_⟩, ?_⟩
    · dsimp only
      rw [e5]
      exact hI3
    · show apM M1 (20 * j) ch 0 18 = _
      rw [show apM M1 (20 * j) ch 0 18 = 20 * j + 20 from if_pos ⟨rfl, rfl⟩]
      omega
    · by_cases u : k < 20 * j
      · rw [show apM M1 (20 * j) ch 7 k = M1 7 k from (if_neg (by omega)).trans (if_neg (by omega))]
        exact hB1 k a u y
      · rw [show apM M1 (20 * j) ch 7 k = ch (k - 20 * j) from (if_neg (by omega)).trans (if_pos ⟨rfl, by omega⟩), hch2 _ (by omega), show 20 * j + (k - 20 * j) = k by omega, if_pos y]
    · rw [show apM M1 (20 * j) ch 0 z = M1 0 z from (if_neg (by omega)).trans (if_neg (by omega))]
      exact hF1.1 z h
    · rw [show apM M1 (20 * j) ch b z = M1 b z from (if_neg (by omega)).trans (if_neg (by omega)), hF1.2 b h h7]
    · dsimp only
      rw [e5, show 5 * (j.toNat + 1) = 5 * j.toNat + 5 by omega]
      exact hE1.trans xE
    · show fL_feeds_2 (f + 1) 0 q (ii (20 * j)) (CW c1 A1 J1) = _
      have l : ∀ (i : Int32) (v : Int) (k : Int32 → Option AR), i = ii v → 0 ≤ v → v < 5 → aI (CW (nwC c1 100 5) A2 (nwJ c1 J1)) c1.2.2.1 100 i k = k (ii (pkN ch v 4)) := fun i v k hi a b => by rw [hi, k_aI o1 v (by omega), w2 v a b]
      rw [fL_feeds_2, k_V hs1.1.1, hln, k_C, q_I, if_neg (by rw [ii_le _ _ (by omega)]; omega), k_nA (n := 5) _ (by omega) ⟨rfl, by decide, by omega⟩, il0, e2, fL_feeds_70, l 0 0 _ rfl (by omega) (by omega), l 1 1 _ rfl (by omega) (by omega), l 2 2 _ rfl (by omega) (by omega), l 3 3 _ rfl (by omega) (by omega), l 4 4 _ rfl (by omega) (by omega), lkV hI2.1, e3, k_C, q_I, if_pos (by rw [il0, ii_le _ _ (by omega)]; omega), show (20 : Int32) = ii 20 from rfl, ii_add, lt_q, show 20 * j + 20 = 20 * (j + 1) by omega]
  · rintro f ⟨c1, A1, J1⟩ ⟨hj0, M1, hI1, h181, hB1, hF1, hE1⟩
    dsimp only at hI1 hE1 ⊢
    have hs1 := hs.fe hq hE1
    have hln := s_len (J := J1) hs1
    obtain ⟨y1, y2, y3, y4⟩ := hE1
    refine ⟨c1, A1, J1, M1, n + (((m : Int) + 19) / 20).toNat, ?_, hI1, by omega, ⟨by omega, by omega, fun k a b => hB1 k a (by omega) b⟩, hF1, y1, by omega, y3, y4⟩
    rw [fL_feeds_2, k_V hs1.1.1, hln, k_C, q_I, if_pos (by rw [ii_le _ _ (by omega)]; omega), rZ_1]
theorem n_tell (hI : Inv C0 N0 n pl sp tv cap c A J M g) (h18 : M 0 18 = 0) (hs : isStr c A q m t) (hq : 455 ≤ q) (hm : m ≤ 480) (hro : RO C0 N0 n cap c 30 150) (st : Int → Int) (qn : Int) (hst : hdOK st qn) (ls : List Ln) {s' : CT} (hp : Pth (hdS st qn) ls s') (hll : ∀ l, l ∈ ls → l.2.2.length < 100) (hln : ls.length ≤ 100) (hT : Toks t m 0 (hdT st qn ++ lnTs ls)) : ∃ (c' : CC) (A' : AI) (J' : JI) (M' : AI) (n' : Nat), fL_tell 0 q (CW c A J) = some (Sum.inl (some (Value.int (ii (s'.1 0 9)))), CW (swp c' pl sp) A' J') ∧ Inv C0 N0 n' sp pl tv cap (swp c' pl sp) A' J' (ldM M' s'.1) s'.2.1 ∧ (n ≤ n' ∧ n' ≤ n + 26) ∧ (A' 1 3 = 0 ∧ A' 1 4 = -1) ∧ FB M M' ∧ FE 25 125 c c' A A' J J' ∧ isLock c' pl sp tv cap := by
  obtain ⟨c1, A1, J1, M1, n1, e1, hI1, hn1, ⟨b1, b2, b3⟩, hF1, hE1⟩ := n_feeds hI h18 hs hq hm hro
  have hs1 := hs.fe hq hE1
  have hl := s_len (J := J1) hs1
  obtain ⟨A2, J2, e2, hI2, k2, fA2, fJ2⟩ := d_load hI1 (m : Int) ⟨by omega, b1⟩ st qn hst ls hp hll hln b3 hT
  obtain ⟨y1, y2, y3, y4⟩ := hE1
  refine ⟨c1, A2, J2, M1, n1 + 1, ?_, hI2, by omega, k2, hF1, ⟨y1, y2, fun b z h h2 => (fA2 b z h2).trans (y3 b z h h2), fun b j h h2 => (fJ2 b j h2).trans (y4 b j h h2)⟩, hI1.1⟩
  rw [fL_tell, e1, k_Cl ⟨y1.1, y2.2.1.1, y2.2.2.1⟩, q_I, if_neg (by decide), k_V hs1.1.1, hl, k_C, q_I, lkV hI1.1, e2, k_Cl (c := c1) (c' := swp c1 pl sp) ⟨Nat.le_refl _, Nat.le_refl _, Nat.le_refl _⟩, q_I]
end TEL
