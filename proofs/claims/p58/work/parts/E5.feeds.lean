/-! THE LAW: its text, fed to the class by words of five ints -/
theorem sh_or (a b : Int) (ha : 0 ≤ a ∧ a < 8388608) (hb : 0 ≤ b ∧ b ≤ 255) : (ii a <<< ((8 : Int32) &&& 31)) ||| ii b = ii (256 * a + b) := by
  have e8 : ((8 : Int32) &&& 31) = 8 := by decide
  rw [e8]
  apply Int32.toBitVec_inj.mp
  rw [Int32.toBitVec_or, Int32.toBitVec_shiftLeft]
  apply BitVec.eq_of_toNat_eq
  rw [BitVec.toNat_or]
  have t : ∀ v : Int, 0 ≤ v → v < 2147483648 → (ii v).toBitVec.toNat = v.toNat := fun v h1 h2 => by
    show (BitVec.ofInt 32 v).toNat = _
    rw [BitVec.toNat_ofInt]
    omega
  rw [t b hb.1 (by omega), t (256 * a + b) (by omega) (by omega)]
  have s8 : ((8 : Int32).toBitVec.smod 32) = 8#32 := by decide
  rw [s8]
  have h1 : ((ii a).toBitVec <<< 8#32).toNat = a.toNat <<< 8 := by
    rw [BitVec.shiftLeft_eq', BitVec.toNat_shiftLeft, t a ha.1 (by omega)]
    rw [show (8#32).toNat = 8 from rfl, Nat.shiftLeft_eq, Nat.mod_eq_of_lt (by omega)]
  rw [h1, ← Nat.shiftLeft_add_eq_or_of_lt (by omega), Nat.shiftLeft_eq]
  omega
theorem byv_d (v s : Int) (hs : s = 24 ∨ s = 16 ∨ s = 8 ∨ s = 0) (hv : 0 ≤ v ∧ v < 2147483648) : byv (ii v) s = v / 2 ^ s.toNat % 256 := by
  have h : (ii v >>> (ii s &&& 31)) &&& 255 = ii (v / 2 ^ s.toNat % 256) := by
    apply Int32.toBitVec_inj.mp
    rw [Int32.toBitVec_and, Int32.toBitVec_shiftRight]
    apply BitVec.eq_of_toNat_eq
    have t : ∀ v : Int, 0 ≤ v → v < 2147483648 → (ii v).toBitVec.toNat = v.toNat := fun v h1 h2 => by
      show (BitVec.ofInt 32 v).toNat = _
      rw [BitVec.toNat_ofInt]
      omega
    have hm : (ii v).toBitVec.msb = false := by
      rw [BitVec.msb_eq_decide, t v hv.1 hv.2]
      simp
      omega
    have key : ∀ k : Nat, k < 32 → (((ii v).toBitVec.sshiftRight k) &&& (255 : Int32).toBitVec).toNat = (v / 2 ^ k % 256).toNat := fun k hk => by
      rw [BitVec.sshiftRight_eq_of_msb_false hm, BitVec.toNat_and, BitVec.toNat_ushiftRight, t v hv.1 hv.2, show ((255 : Int32).toBitVec).toNat = 2 ^ 8 - 1 from rfl, Nat.and_two_pow_sub_one_eq_mod, Nat.shiftRight_eq_div_pow]
      have : v / 2 ^ k % 256 = ((v.toNat / 2 ^ k % 256 : Nat) : Int) := by
        rw [Int.natCast_emod, Int.natCast_ediv]
        rw [show ((v.toNat : Nat) : Int) = v by omega]
        rfl
      rw [this]
      rfl
    have b := Int.emod_lt_of_pos (v / 2 ^ s.toNat) (show (0 : Int) < 256 by decide)
    have b0 := Int.emod_nonneg (v / 2 ^ s.toNat) (show (256 : Int) ≠ 0 by decide)
    rw [t _ b0 (by omega)]
    rcases hs with rfl | rfl | rfl | rfl
    · exact key 24 (by decide)
    · exact key 16 (by decide)
    · exact key 8 (by decide)
    · exact key 0 (by decide)
  unfold byv
  rw [h]
  exact ii_ti _ (by omega)
/-- a word of the first so many of four bytes -/
def pkN (ch : Int → Int) (j : Int) : Nat → Int
  | 0 => 0
  | r + 1 => 256 * pkN ch j r + ch (4 * j + r)
theorem pkN_b (ch : Int → Int) (j : Int) (hc : ∀ k, 0 ≤ ch k ∧ ch k ≤ 127) : ∀ r : Nat, r ≤ 4 → (0 ≤ pkN ch j r) ∧ (r ≤ 3 → pkN ch j r < 8388608) ∧ pkN ch j r < 2147483648
  | 0, _ => by show 0 ≤ (0 : Int) ∧ _; exact ⟨Int.le_refl 0, fun _ => by show (0 : Int) < _; omega, by show (0 : Int) < _; omega⟩
  | 1, _ => by
    have h0 := hc (4 * j + (0 : Nat))
    show 0 ≤ 256 * (0 : Int) + ch (4 * j + (0 : Nat)) ∧ (_ → 256 * (0 : Int) + ch (4 * j + (0 : Nat)) < _) ∧ 256 * (0 : Int) + ch (4 * j + (0 : Nat)) < _
    omega
  | 2, _ => by
    have h0 := hc (4 * j + (0 : Nat))
    have h1 := hc (4 * j + (1 : Nat))
    show 0 ≤ 256 * (256 * (0 : Int) + ch (4 * j + (0 : Nat))) + ch (4 * j + (1 : Nat)) ∧ (_ → 256 * (256 * (0 : Int) + ch (4 * j + (0 : Nat))) + ch (4 * j + (1 : Nat)) < _) ∧ 256 * (256 * (0 : Int) + ch (4 * j + (0 : Nat))) + ch (4 * j + (1 : Nat)) < _
    omega
  | 3, _ => by
    have h0 := hc (4 * j + (0 : Nat))
    have h1 := hc (4 * j + (1 : Nat))
    have h2 := hc (4 * j + (2 : Nat))
    show 0 ≤ 256 * (256 * (256 * (0 : Int) + ch (4 * j + (0 : Nat))) + ch (4 * j + (1 : Nat))) + ch (4 * j + (2 : Nat)) ∧ (_ → 256 * (256 * (256 * (0 : Int) + ch (4 * j + (0 : Nat))) + ch (4 * j + (1 : Nat))) + ch (4 * j + (2 : Nat)) < _) ∧ 256 * (256 * (256 * (0 : Int) + ch (4 * j + (0 : Nat))) + ch (4 * j + (1 : Nat))) + ch (4 * j + (2 : Nat)) < _
    omega
  | 4, _ => by
    have h0 := hc (4 * j + (0 : Nat))
    have h1 := hc (4 * j + (1 : Nat))
    have h2 := hc (4 * j + (2 : Nat))
    have h3 := hc (4 * j + (3 : Nat))
    show 0 ≤ 256 * (256 * (256 * (256 * (0 : Int) + ch (4 * j + (0 : Nat))) + ch (4 * j + (1 : Nat))) + ch (4 * j + (2 : Nat))) + ch (4 * j + (3 : Nat)) ∧ (4 ≤ 3 → 256 * (256 * (256 * (256 * (0 : Int) + ch (4 * j + (0 : Nat))) + ch (4 * j + (1 : Nat))) + ch (4 * j + (2 : Nat))) + ch (4 * j + (3 : Nat)) < _) ∧ 256 * (256 * (256 * (256 * (0 : Int) + ch (4 * j + (0 : Nat))) + ch (4 * j + (1 : Nat))) + ch (4 * j + (2 : Nat))) + ch (4 * j + (3 : Nat)) < _
    refine ⟨by omega, fun x => absurd x (by decide), by omega⟩
  | r + 5, h => by omega
theorem pkN_4 (ch : Int → Int) (j : Int) : pkN ch j 4 = 256 * (256 * (256 * (256 * 0 + ch (4 * j + 0)) + ch (4 * j + 1)) + ch (4 * j + 2)) + ch (4 * j + 3) := rfl
theorem pk_by (ch : Int → Int) (hc : ∀ k, 0 ≤ ch k ∧ ch k ≤ 127) (k : Int) (hk : 0 ≤ k ∧ k < 20) : by5 (ii (pkN ch 0 4)) (ii (pkN ch 1 4)) (ii (pkN ch 2 4)) (ii (pkN ch 3 4)) (ii (pkN ch 4 4)) k = ch k := by
  have key : ∀ (j r : Int), (0 ≤ r ∧ r < 4) → byv (ii (pkN ch j 4)) (24 - 8 * r) = ch (4 * j + r) := fun j r hr => by
    have hb := pkN_b ch j hc 4 (by omega)
    have h0 := hc (4 * j + 0)
    have h1 := hc (4 * j + 1)
    have h2 := hc (4 * j + 2)
    have h3 := hc (4 * j + 3)
    rw [byv_d _ _ (by omega) ⟨hb.1, hb.2.2⟩, pkN_4]
    rcases (show r = 0 ∨ r = 1 ∨ r = 2 ∨ r = 3 by omega) with rfl | rfl | rfl | rfl
    · show (_ : Int) / 2 ^ 24 % 256 = _
      omega
    · show (_ : Int) / 2 ^ 16 % 256 = _
      omega
    · show (_ : Int) / 2 ^ 8 % 256 = _
      omega
    · show (_ : Int) / 2 ^ 0 % 256 = _
      omega
  have hw : ∃ j : Int, wd5 (ii (pkN ch 0 4)) (ii (pkN ch 1 4)) (ii (pkN ch 2 4)) (ii (pkN ch 3 4)) (ii (pkN ch 4 4)) k = ii (pkN ch j 4) ∧ k = 4 * j + k % 4 := by
    unfold wd5
    by_cases k4 : 4 ≤ k
    · rw [if_pos k4]
      by_cases k8 : 8 ≤ k
      · rw [if_pos k8]
        by_cases k12 : 12 ≤ k
        · rw [if_pos k12]
          by_cases k16 : 16 ≤ k
          · rw [if_pos k16]
            exact ⟨4, rfl, by omega⟩
          · rw [if_neg k16]
            exact ⟨3, rfl, by omega⟩
        · rw [if_neg k12]
          exact ⟨2, rfl, by omega⟩
      · rw [if_neg k8]
        exact ⟨1, rfl, by omega⟩
    · rw [if_neg k4]
      exact ⟨0, rfl, by omega⟩
  obtain ⟨j, e1, e2⟩ := hw
  unfold by5
  rw [e1, key j (k % 4) (by omega), ← e2]
/-- how many bytes a word has -/
def rrN (k j : Int) : Nat := if k ≤ 4 * j then 0 else if 4 * j + 4 ≤ k then 4 else (k - 4 * j).toNat
section FDS
variable {C0 N0 n : Nat} {c c' : CC} {A A' : AI} {J J' : JI} {M : AI} {g : Int → Int} {pl sp tv cap q m : Nat} {t : Int → Int}
/-- twenty bytes behind the others -/
def apM (M : AI) (L : Int) (ch : Int → Int) : AI := fun b z => if b = 0 ∧ z = 18 then L + 20 else if b = 7 ∧ L ≤ z then ch (z - L) else M b z
theorem d_append (hI : Inv C0 N0 n pl sp tv cap c A J M g) (L : Int) (hL : M 0 18 = L ∧ L ≤ 480) (ch : Int → Int) (hc : ∀ k, 0 ≤ ch k ∧ ch k ≤ 127) : ∃ A', fX6_append 0 (ii (pkN ch 0 4)) (ii (pkN ch 1 4)) (ii (pkN ch 2 4)) (ii (pkN ch 3 4)) (ii (pkN ch 4 4)) (CW c A J) = some (Sum.inl (some (Value.int (ii (L + 20)))), CW c A' J) ∧ Inv C0 N0 (n + 1) pl sp tv cap c A' J (apM M L ch) g ∧ ∀ (b : Nat) (z : Int), b ≠ 1 → b ≠ 1 + 1 → A' b z = A b z := by
  have hk := hI.1
  have hRd : isReader c 1 := hk.2.1.1
  obtain ⟨r1, r2, r3, r4⟩ := hI.2.2.2.2.1
  have hap := hk.2.2.2.1.1
  have hsz := hI.2.1.2
  obtain ⟨A', e, a2, aB, f⟩ := c_app (c := c) (A := A) (J := J) hRd (ii (pkN ch 0 4)) (ii (pkN ch 1 4)) (ii (pkN ch 2 4)) (ii (pkN ch 3 4)) (ii (pkN ch 4 4)) L (r1.1.trans hL.1) (by omega)
  have e18 : apM M L ch 0 18 = L + 20 := if_pos ⟨rfl, rfl⟩
  have eo : ∀ z, z ≠ 18 → apM M L ch 0 z = M 0 z := fun z h => (if_neg (by omega)).trans (if_neg (by omega))
  refine ⟨A', ?_, hI.rdG ⟨rfl, rfl, rfl⟩ (by omega) (fun b z h _ _ => f b z (by omega) (by omega)) ⟨⟨by rw [e18]; exact a2, by rw [e18]; omega, by rw [e18]; omega⟩, fun k x y => ?_, ?_, ?_⟩ (fun z h => eo z (by omega)) (fun b h => funext fun z => (if_neg (by omega)).trans (if_neg (by omega))), fun b z p r => f b z (by omega) (by omega)⟩
  · rw [fX6_append, lkR0 hk, rdV hRd, e, k_C, q_I, if_neg (by decide), lkR0 hk, rdI2 hRd, a2]
  · rw [e18] at y
    by_cases u : k < L
    · rw [show apM M L ch 7 k = M 7 k from (if_neg (by omega)).trans (if_neg (by omega)), show (2 : Nat) = 1 + 1 from rfl, f (1 + 1) k (by omega) (by omega)]
      exact r2 k x (by omega)
    · have h1 := aB (k - L) (by omega) (by omega)
      rw [show L + (k - L) = k by omega, pk_by ch hc (k - L) (by omega)] at h1
      rw [show apM M L ch 7 k = ch (k - L) from (if_neg (by omega)).trans (if_pos ⟨rfl, by omega⟩)]
      have := hc (k - L)
      exact ⟨h1, by omega⟩
  · rw [f 1 3 (by omega) (by omega), eo 19 (by omega)]; exact r3
  · rw [f 1 4 (by omega) (by omega), eo 20 (by omega)]; exact r4
/-- the words of one chunk -/
theorem n_words (hs : isStr c A q m t) (I : Int) (hI : 0 ≤ I ∧ I ≤ 10000) (hq : okc c c'.2.2.1 100 5) (hz : q + 1 < c'.2.2.1) (ch : Int → Int) (hch : ∀ k, 0 ≤ k → ch k = if I + k < m then t (I + k) else 32) (hc : ∀ k, 0 ≤ ch k ∧ ch k ≤ 127) (h0 : ∀ z, A c'.2.2.1 z = 0) (r2 : _) : ∃ A', fL_feeds_17 r2 FU 0 q (ii I) c'.2.2.1 (ii 0) (CW c A J) = fL_feeds_70 r2 0 q (ii I) c'.2.2.1 (CW c A' J) ∧ (∀ j, 0 ≤ j → j < 5 → A' c'.2.2.1 j = pkN ch j 4) ∧ ∀ (b : Nat) (z : Int), b ≠ c'.2.2.1 → A' b z = A b z := by
  obtain ⟨z, hzz⟩ : ∃ z, z = c'.2.2.1 := ⟨_, rfl⟩
  rw [← hzz] at hq hz h0 ⊢
  have hm7 := hs.2.1.2
  refine lp (fun f k (s : AI) => fL_feeds_17 r2 f 0 q (ii I) z (ii k) (CW c s J)) (fun x => ∃ A', x = fL_feeds_70 r2 0 q (ii I) z (CW c A' J) ∧ (∀ j, 0 ≤ j → j < 5 → A' z j = pkN ch j 4) ∧ ∀ (b : Nat) (y : Int), b ≠ z → A' b y = A b y)
    (fun k D => 0 ≤ k ∧ (∀ j, 0 ≤ j → j < 5 → D z j = pkN ch j (rrN k j)) ∧ ∀ (b : Nat) (y : Int), b ≠ z → D b y = A b y) 20 ?_ ?_ FU 0 A (by omega) ⟨by omega, fun j a b => by rw [h0, show rrN 0 j = 0 from if_pos (by omega)]; rfl, fun _ _ _ => rfl⟩ (by have := FU_e; omega)
  · rintro f k D hk ⟨hk0, hD, hF⟩
    have hsD : isStr c D q m t := ⟨hs.1, by rw [hF _ _ (by omega)]; exact hs.2.1, fun i a b => by rw [hF _ _ (by omega)]; exact hs.2.2 i a b⟩
    have hln := s_len (J := J) hsD
    have hj : 0 ≤ k / 4 ∧ k / 4 < 5 := by omega
    have hr : rrN k (k / 4) = (k % 4).toNat := by
      unfold rrN
      by_cases y : k ≤ 4 * (k / 4)
      · rw [if_pos y]; omega
      · rw [if_neg y, if_neg (by omega)]; omega
    have hr1 : rrN (k + 1) (k / 4) = (k % 4).toNat + 1 := by
      unfold rrN
      rw [if_neg (by omega)]
      by_cases y : 4 * (k / 4) + 4 ≤ k + 1
      · rw [if_pos y]; omega
      · rw [if_neg y]; omega
    have hro : ∀ j, j ≠ k / 4 → rrN (k + 1) j = rrN k j := fun j h => by
      unfold rrN
      by_cases y : k ≤ 4 * j
      · rw [if_pos y, if_pos (by omega)]
      · rw [if_neg y, if_neg (by omega)]
        by_cases x : 4 * j + 4 ≤ k
        · rw [if_pos x, if_pos (by omega)]
        · rw [if_neg x, if_neg (by omega)]
          omega
    have hpb := pkN_b ch (k / 4) hc (k % 4).toNat (by omega)
    have hd := hD (k / 4) hj.1 hj.2
    rw [hr] at hd
    have hck := hc k
    have new : 256 * pkN ch (k / 4) (k % 4).toNat + ch k = pkN ch (k / 4) (rrN (k + 1) (k / 4)) := by
      rw [hr1]
      show _ = 256 * pkN ch (k / 4) (k % 4).toNat + ch (4 * (k / 4) + ((k % 4).toNat : Nat))
      rw [show 4 * (k / 4) + (((k % 4).toNat : Nat) : Int) = k by omega]
    refine Or.inr ⟨up D z (k / 4) (256 * pkN ch (k / 4) (k % 4).toNat + ch k), ⟨by omega, fun j a b => ?_, fun b y h => ?_⟩, ?_⟩
    · by_cases y : j = k / 4
      · rw [y, up_s, new]
      · rw [up_n _ _ _ _ _ _ (by omega), hro j y]
        exact hD j a b
    · rw [up_n _ _ _ _ _ _ (by omega)]
      exact hF b y h
    · show fL_feeds_17 r2 (f + 1) 0 q (ii I) z (ii k) (CW c D J) = _
      have h62 : ∀ v : Int32, v = ii (ch k) → fL_feeds_62 r2 (fL_feeds_17 r2 f) 0 q (ii I) z (ii k) z (ii (k / 4)) (ii (pkN ch (k / 4) (k % 4).toNat) <<< ((8 : Int32) &&& 31)) v (CW c D J) = fL_feeds_17 r2 f 0 q (ii I) z (ii (k + 1)) (CW c (up D z (k / 4) (256 * pkN ch (k / 4) (k % 4).toNat + ch k)) J) := fun v hv => by
        rw [fL_feeds_62, hv, sh_or _ _ ⟨hpb.1, hpb.2.1 (by omega)⟩ (by omega), k_uI hq _ _ (by omega), ii_s, lt_q]
      have d4 : ii k / (4 : Int32) = ii (k / 4) := by rw [show (4 : Int32) = ii 4 from rfl, ii_div _ _ (by omega)]
      have n4 : ¬ (4 : Int32) = 0 := by decide
      have hck2 := hch k hk0
      rw [fL_feeds_17, show (20 : Int32) = ii 20 from rfl, if_neg (by rw [ii_le _ _ (by omega)]; omega), if_neg n4, if_neg n4, d4, k_aI hq _ (by omega), hd, k_V hs.1.1, hln, k_C, q_I, ii_add]
      by_cases y : (m : Int) ≤ I + k
      · rw [if_neg (by omega)] at hck2
        rw [if_pos (by rw [ii_le _ _ (by omega)]; exact y)]
        exact h62 32 (by rw [hck2]; rfl)
      · rw [if_pos (by omega)] at hck2
        have hca := s_char (J := J) hsD (I + k) (by omega)
        rw [if_neg (by rw [ii_le _ _ (by omega)]; exact y), k_V hs.1.1, hca, k_C, q_I]
        exact h62 _ (by rw [hck2])
  · rintro f D ⟨hk0, hD, hF⟩
    refine ⟨D, ?_, fun j a b => ?_, hF⟩
    · rw [fL_feeds_17, show (20 : Int32) = ii 20 from rfl, if_pos (Int32.le_refl _)]
    · rw [hD j a b, show rrN 20 j = 4 from (if_neg (by omega)).trans (if_pos (by omega))]
end FDS
