/-! THE LAW'S SEARCH: all fillings, one behind the other -/
abbrev SP : Type := Int × Int × Int × Int × Int
abbrev SS : Type := Int × SP
def sup (S : SS) (t : Int) (p : SP) : SS := if t < S.1 then (t, p) else S
theorem mnb_neg (f : Int → Int) (L st w : Int) (hL : 0 < L) (hw : w < 0) : mnb f L st w = 1000000 := by
  have h := bnd_lt L st w 0 hL
  rw [Int.zero_mul] at h
  unfold mnb
  rw [show (bnd L st w).toNat = 0 by omega]
  rfl
theorem moN_top (f1 : Int → Int) (v L w c : Int) (h0 : 0 ≤ c) (he : c + f1 (w - c * L) = v) : ∀ m : Nat, c < m → (∀ i : Int, c < i → i < m → i + f1 (w - i * L) ≠ v) → moN f1 v L w m = c
  | 0, h, _ => by omega
  | m + 1, h, hi => by
    unfold moN
    by_cases q : c = m
    · rw [← q, if_pos he]
    · rw [if_neg (hi m (by omega) (by omega))]
      exact moN_top f1 v L w c h0 he m (by omega) (fun i a b => hi i a (by omega))
/-- the counts behind j, down from the top, are done -/
def BS (f : Int → Int) (base L w T : Int) (pay : Int → SP) (S0 S : SS) (j : Int) : Prop :=
  (S = S0 ∧ ∀ i, j < i → i ≤ T → S0.1 ≤ base + i + f (w - i * L)) ∨ ∃ i, (j < i ∧ i ≤ T) ∧ base + i + f (w - i * L) < S0.1 ∧ S = (base + i + f (w - i * L), pay i) ∧ (∀ k, j < k → k ≤ T → base + i + f (w - i * L) ≤ base + k + f (w - k * L)) ∧ ∀ k, i < k → k ≤ T → base + i + f (w - i * L) < base + k + f (w - k * L)
theorem BS.start (f : Int → Int) (base L w T : Int) (pay : Int → SP) (S0 : SS) : BS f base L w T pay S0 S0 T := Or.inl ⟨rfl, fun i a b => by omega⟩
theorem BS.step {f : Int → Int} {base L w T : Int} {pay : Int → SP} {S0 S : SS} {j : Int} (h : BS f base L w T pay S0 S j) (hj : j ≤ T) : BS f base L w T pay S0 (sup S (base + j + f (w - j * L)) (pay j)) (j - 1) := by
  unfold sup
  rcases h with ⟨h1, h2⟩ | ⟨i, h1, h2, h3, h4, h5⟩
  · subst h1
    split
    case isTrue q =>
      refine Or.inr ⟨j, by omega, q, rfl, fun k a b => ?_, fun k a b => ?_⟩
      · by_cases e : k = j
        · rw [e]; exact Int.le_refl _
        · have := h2 k (by omega) b; omega
      · have := h2 k a b; omega
    case isFalse q =>
      refine Or.inl ⟨rfl, fun k a b => ?_⟩
      by_cases e : k = j
      · rw [e]; omega
      · exact h2 k (by omega) b
  · have e1 : S.1 = base + i + f (w - i * L) := by rw [h3]
    split
    case isTrue q =>
      refine Or.inr ⟨j, by omega, by omega, rfl, fun k a b => ?_, fun k a b => ?_⟩
      · by_cases e : k = j
        · rw [e]; exact Int.le_refl _
        · have := h4 k (by omega) b; omega
      · have := h4 k a b; omega
    case isFalse q =>
      refine Or.inr ⟨i, by omega, h2, h3, fun k a b => ?_, h5⟩
      by_cases e : k = j
      · rw [e]; omega
      · exact h4 k (by omega) b
theorem BS.fin {f : Int → Int} {base L w T : Int} {pay : Int → SP} {S0 S : SS} (h : BS f base L w T pay S0 S (-1)) (hf : ∀ z, 0 ≤ f z ∧ f z ≤ 1000000) (hn : ∀ z, z < 0 → f z = 1000000) (hL : 0 < L) (hT : 0 ≤ T) (hb : 0 ≤ base) (h0 : S0.1 ≤ 1000000) : S = sup S0 (base + mnb f L T w) (pay (mob f (mnb f L T w) L T w)) := by
  unfold sup
  have neg : ∀ i : Int, w - i * L < 0 → f (w - i * L) = 1000000 := fun i q => hn _ q
  by_cases hw : w < 0
  · rw [mnb_neg f L T w hL hw, if_neg (by omega)]
    rcases h with ⟨h1, h2⟩ | ⟨i, h1, h2, h3, h4, h5⟩
    · exact h1
    · have := Int.mul_nonneg (show 0 ≤ i by omega) (show 0 ≤ L by omega)
      have := neg i (by omega)
      omega
  · obtain ⟨m1, m2, m3⟩ := mnb_is f L T w hL ⟨hT, by omega⟩
    rcases h with ⟨h1, h2⟩ | ⟨i, h1, h2, h3, h4, h5⟩
    · rw [if_neg]
      · exact h1
      · rcases m3 with z | ⟨c, c1, c2, c3⟩
        · omega
        · have := h2 c (by omega) c1.2; omega
    · have hfi := hf (w - i * L)
      have hiw : i * L ≤ w := by
        apply Classical.byContradiction
        intro q
        have := neg i (by omega)
        omega
      have hv : mnb f L T w = i + f (w - i * L) := by
        have a := m2 i (by omega) h1.2 hiw
        rcases m3 with z | ⟨c, c1, c2, c3⟩
        · omega
        · have := h4 c (by omega) c1.2; omega
      have hib := (bnd_lt L T w i hL).mpr ⟨h1.2, hiw⟩
      have hmo : mob f (mnb f L T w) L T w = i := by
        refine moN_top f _ L w i (by omega) hv.symm _ (by omega) fun k a b => ?_
        have hk := (bnd_lt L T w k hL).mp (by omega)
        have := h5 k a hk.1
        omega
      rw [hmo, if_pos (by omega), h3, hv]
      exact Prod.ext (by show base + i + f (w - i * L) = base + (i + f (w - i * L)); omega) rfl
/-! four kinds at most -/
section PAD
variable (n : Int) (o len st : Int → Int)
def Gp (p s : Int) : Int := FW n o len st (if p < n then p else n) s
def Lp (p : Int) : Int := if p < n then len (o p) else 1
def Tp (p : Int) : Int := if p < n then st (o p) else 0
theorem Gp_b (p s : Int) : 0 ≤ Gp n o len st p s ∧ Gp n o len st p s ≤ 1000000 := FW_b _ _ _ _ _ _
theorem Gp_p (p s : Int) (h : p ≤ n) : Gp n o len st p s = FW n o len st p s := by
  unfold Gp
  by_cases q : p < n
  · rw [if_pos q]
  · rw [if_neg q, show n = p by omega]
theorem Gp_n (p s : Int) (h : n ≤ p) : Gp n o len st p s = if s = 0 then 0 else 1000000 := by
  unfold Gp
  rw [if_neg (by omega), FW_n]
theorem Lp_b (hk : kindsOK n o len st) (p : Int) (hp : 0 ≤ p) : 0 < Lp n o len p := by
  unfold Lp
  split
  · exact (hk p hp (by assumption)).2.1
  · omega
theorem Tp_b (hk : kindsOK n o len st) (p : Int) (hp : 0 ≤ p) : 0 ≤ Tp n o st p := by
  unfold Tp
  split
  · exact (hk p hp (by assumption)).2.2
  · omega
theorem Gp_s (hk : kindsOK n o len st) (p s : Int) (hp : 0 ≤ p) : mnb (Gp n o len st (p + 1)) (Lp n o len p) (Tp n o st p) s = Gp n o len st p s := by
  by_cases q : p < n
  · rw [Gp_p _ _ _ _ p s (by omega), FW_p _ _ _ _ _ _ q, show Gp n o len st (p + 1) = FW n o len st (p + 1) from funext fun z => Gp_p _ _ _ _ _ z (by omega)]
    unfold Lp Tp
    rw [if_pos q, if_pos q]
  · unfold Lp Tp
    rw [if_neg q, if_neg q, Gp_n _ _ _ _ p s (by omega)]
    by_cases hs : s < 0
    · rw [mnb_neg _ _ _ _ (by omega) hs, if_neg (by omega)]
    · unfold mnb
      have e : bnd 1 0 s = 1 := by unfold bnd; rw [Int.ediv_one]; split <;> omega
      rw [e]
      have g := Gp_n n o len st (p + 1) s (by omega)
      show (if ((0 : Nat) : Int) + Gp n o len st (p + 1) (s - ((0 : Nat) : Int) * 1) < 1000000 then _ else 1000000) = _
      rw [show s - ((0 : Nat) : Int) * 1 = s by omega, g]
      by_cases z : s = 0
      · rw [if_pos z, if_pos (by omega)]; rfl
      · rw [if_neg z, if_neg (by omega)]
theorem Gp_neg (hk : kindsOK n o len st) (p s : Int) (hp : 0 ≤ p) (hs : s < 0) : Gp n o len st p s = 1000000 := by
  rw [← Gp_s n o len st hk p s hp, mnb_neg _ _ _ _ (Lp_b n o len st hk p hp) hs]
def eL (L w : Int) : Int := if 3 < n ∧ 0 ≤ w ∧ w - w / L * L = 0 then w / L else if w = 0 then 0 else -1
def mo (p s : Int) : Int := mob (Gp n o len st (p + 1)) (Gp n o len st p s) (Lp n o len p) (Tp n o st p) s
theorem leaf (hk : kindsOK n o len st) (h4 : n ≤ 4) (w : Int) (hw : w ≤ 500) : (-1 ≤ eL n (Lp n o len 3) w ∧ eL n (Lp n o len 3) w ≤ 500) ∧ (0 ≤ eL n (Lp n o len 3) w → 0 ≤ w) ∧ (0 ≤ eL n (Lp n o len 3) w ∧ eL n (Lp n o len 3) w ≤ Tp n o st 3 → Gp n o len st 3 w = eL n (Lp n o len 3) w ∧ mo n o len st 3 w = eL n (Lp n o len 3) w) ∧ (¬ (0 ≤ eL n (Lp n o len 3) w ∧ eL n (Lp n o len 3) w ≤ Tp n o st 3) → Gp n o len st 3 w = 1000000) := by
  have hL := Lp_b n o len st hk 3 (by omega)
  have hT := Tp_b n o len st hk 3 (by omega)
  have hT4 : ¬ 3 < n → Tp n o st 3 = 0 := fun q => if_neg q
  have hG : ∀ s, Gp n o len st (3 + 1) s = if s = 0 then 0 else 1000000 := fun s => Gp_n _ _ _ _ _ _ (by omega)
  unfold mo
  rw [← Gp_s n o len st hk 3 w (by omega)]
  obtain ⟨L, hLe⟩ : ∃ L, L = Lp n o len 3 := ⟨_, rfl⟩
  obtain ⟨T, hTe⟩ : ∃ T, T = Tp n o st 3 := ⟨_, rfl⟩
  obtain ⟨G, hGe⟩ : ∃ G, G = Gp n o len st (3 + 1) := ⟨_, rfl⟩
  rw [← hLe] at hL ⊢
  rw [← hTe] at hT hT4 ⊢
  rw [← hGe] at hG ⊢
  have key : (0 ≤ eL n L w → eL n L w * L = w ∧ 0 ≤ w) ∧ -1 ≤ eL n L w ∧ ∀ c, 0 ≤ c → c ≤ T → c * L = w → eL n L w = c := by
    unfold eL
    refine ⟨?_, ?_, fun c c0 c1 c2 => ?_⟩
    · split
      · intro _; omega
      · split
        · intro _; rw [Int.zero_mul]; omega
        · intro _; omega
    · split
      · have := Int.ediv_nonneg (show 0 ≤ w by omega) (show 0 ≤ L by omega)
        omega
      · split <;> omega
    · have hcw : 0 ≤ c * L := Int.mul_nonneg c0 (by omega)
      have hd : w / L = c := by rw [← c2]; exact Int.mul_ediv_cancel _ (by omega)
      rw [hd]
      by_cases q : 3 < n
      · rw [if_pos ⟨q, by omega, by omega⟩]
      · have hc : c = 0 := by have := hT4 q; omega
        rw [if_neg (fun z => q z.1), if_pos (by rw [hc, Int.zero_mul] at c2; omega), hc]
  obtain ⟨k1, k2, k3⟩ := key
  obtain ⟨e, he⟩ : ∃ e, e = eL n L w := ⟨_, rfl⟩
  rw [← he] at k1 k2 k3 ⊢
  have e5 : e ≤ 500 := by
    by_cases q : 0 ≤ e
    · have := Int.mul_le_mul_of_nonneg_left (show 1 ≤ L by omega) q
      have := (k1 q).1
      omega
    · omega
  refine ⟨⟨k2, e5⟩, fun q => (k1 q).2, fun q => ?_, fun q => ?_⟩
  · obtain ⟨a1, a2⟩ := k1 q.1
    have hm : IsMn G L T w e := ⟨by omega, fun c c0 c1 c2 => by
      rw [hG]
      by_cases z : w - c * L = 0
      · rw [if_pos z, k3 c c0 c1 (by omega)]; omega
      · rw [if_neg z]; omega, Or.inr ⟨e, q, by omega, by rw [hG, if_pos (by omega)]; omega⟩⟩
    have hu := (mnb_is G L T w hL ⟨hT, a2⟩).uniq hm
    refine ⟨hu, ?_⟩
    rw [hu]
    have hb := (bnd_lt L T w e hL).mpr ⟨q.2, by omega⟩
    refine moN_top G e L w e q.1 (by rw [hG, if_pos (by omega)]; omega) _ (by omega) fun i a b => ?_
    rw [hG]
    split <;> omega
  · by_cases hw0 : w < 0
    · exact mnb_neg _ _ _ _ hL hw0
    · have hm : IsMn G L T w 1000000 := ⟨Int.le_refl _, fun c c0 c1 c2 => by
        rw [hG]
        by_cases z : w - c * L = 0
        · exact absurd (k3 c c0 c1 (by omega)) (by omega)
        · rw [if_neg z]; omega, Or.inl rfl⟩
      exact (mnb_is G L T w hL ⟨hT, by omega⟩).uniq hm
/-- what the search finds, behind so many kinds -/
def pE (op a b c w : Int) : SP := (op, a, b, c, mo n o len st 3 w)
def pC (op a b w : Int) : SP := pE n o len st op a b (mo n o len st 2 w) (w - mo n o len st 2 w * Lp n o len 2)
def pB (op a w : Int) : SP := pC n o len st op a (mo n o len st 1 w) (w - mo n o len st 1 w * Lp n o len 1)
def pA (op w : Int) : SP := pB n o len st op (mo n o len st 0 w) (w - mo n o len st 0 w * Lp n o len 0)
theorem mo_tk (s p : Int) (hp : 0 ≤ p ∧ p < n) : mo n o len st p (reN n o len st s p.toNat) = tk n o len st s p ∧ reN n o len st s p.toNat - mo n o len st p (reN n o len st s p.toNat) * Lp n o len p = reN n o len st s (p + 1).toNat := by
  have e : mo n o len st p (reN n o len st s p.toNat) = tk n o len st s p := by
    unfold mo tk
    rw [show Gp n o len st (p + 1) = FW n o len st (p + 1) from funext fun z => Gp_p _ _ _ _ _ z (by omega), Gp_p _ _ _ _ p _ (by omega)]
    unfold Lp Tp
    rw [if_pos hp.2, if_pos hp.2]
  refine ⟨e, ?_⟩
  rw [e, reN_s _ _ _ _ _ _ hp.1]
  unfold Lp
  rw [if_pos hp.2]
/-- it is what the class chooses -/
theorem pA_tk (op s : Int) : (pA n o len st op s).1 = op ∧ (0 < n → (pA n o len st op s).2.1 = tk n o len st s 0) ∧ (1 < n → (pA n o len st op s).2.2.1 = tk n o len st s 1) ∧ (2 < n → (pA n o len st op s).2.2.2.1 = tk n o len st s 2) ∧ (3 < n → (pA n o len st op s).2.2.2.2 = tk n o len st s 3) := by
  have e0 : reN n o len st s (0 : Int).toNat = s := rfl
  unfold pA pB pC pE
  dsimp only
  refine ⟨rfl, fun q => ?_, fun q => ?_, fun q => ?_, fun q => ?_⟩
  · have h0 := mo_tk n o len st s 0 ⟨by omega, by omega⟩
    rw [e0] at h0
    exact h0.1
  · have h0 := mo_tk n o len st s 0 ⟨by omega, by omega⟩
    have h1 := mo_tk n o len st s (0 + 1) ⟨by omega, by omega⟩
    rw [e0] at h0
    rw [← h0.2] at h1
    exact h1.1
  · have h0 := mo_tk n o len st s 0 ⟨by omega, by omega⟩
    have h1 := mo_tk n o len st s (0 + 1) ⟨by omega, by omega⟩
    have h2 := mo_tk n o len st s (0 + 1 + 1) ⟨by omega, by omega⟩
    rw [e0] at h0
    rw [← h0.2] at h1
    rw [← h1.2] at h2
    exact h2.1
  · have h0 := mo_tk n o len st s 0 ⟨by omega, by omega⟩
    have h1 := mo_tk n o len st s (0 + 1) ⟨by omega, by omega⟩
    have h2 := mo_tk n o len st s (0 + 1 + 1) ⟨by omega, by omega⟩
    have h3 := mo_tk n o len st s (0 + 1 + 1 + 1) ⟨by omega, by omega⟩
    rw [e0] at h0
    rw [← h0.2] at h1
    rw [← h1.2] at h2
    rw [← h2.2] at h3
    exact h3.1
end PAD
