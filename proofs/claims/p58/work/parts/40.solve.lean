/-! THE SOLVER'S NUMBERS: orders, fewest pieces, the choice, the ways. -/
theorem sm_up (f : Int → Int) (z v n : Int) (h : 0 ≤ z ∧ z < n) : sm (gu f z v) n = sm f n + (v - f z) := by
  have key : ∀ m : Nat, smN (gu f z v) m = smN f m + (if z < m then v - f z else 0) := by
    intro m
    induction m with
    | zero => show (0 : Int) = 0 + _; rw [if_neg (by omega)]; rfl
    | succ m ih =>
      show smN (gu f z v) m + gu f z v m = smN f m + f m + _
      rw [ih]
      unfold gu
      by_cases q : (m : Int) = z
      · rw [if_pos q, if_neg (by omega), if_pos (by omega), q]; omega
      · rw [if_neg q]
        by_cases q2 : z < m
        · rw [if_pos q2, if_pos (by omega)]; omega
        · rw [if_neg q2, if_neg (by omega)]; omega
  unfold sm
  rw [key, if_pos (by omega)]
theorem sm_z (f : Int → Int) (n : Int) (h : ∀ k, 0 ≤ k → k < n → f k = 0) : sm f n = 0 := by
  rw [sm_c f (fun _ => 0) n h]
  have key : ∀ m : Nat, smN (fun _ => 0) m = 0 := by
    intro m
    induction m with
    | zero => rfl
    | succ m ih => show smN _ m + 0 = 0; rw [ih]; rfl
  exact key _
theorem sm_add (f g : Int → Int) (n : Int) : sm (fun k => f k + g k) n = sm f n + sm g n := by
  have key : ∀ m : Nat, smN (fun k => f k + g k) m = smN f m + smN g m := by
    intro m
    induction m with
    | zero => rfl
    | succ m ih => show smN _ m + (f m + g m) = smN f m + f m + (smN g m + g m); rw [ih]; omega
  exact key _
theorem sm_p (f : Int → Int) (p n : Int) (h : 0 ≤ p ∧ p ≤ n) (hf : ∀ k, 0 ≤ k → k < n → f k = if k < p then 1 else 0) : sm f n = p := by
  rw [sm_c f _ n hf]
  have := sm_ind (fun k => if k < p then 1 else 0) (fun m s => s = if m < p then m else p) (by split <;> omega) n (fun k s a b c => by rw [c]; split <;> split <;> (try split) <;> omega) (by omega)
  rw [this]
  split <;> omega
abbrev ahd (met len : Int → Int) (a b : Int) : Prop := len b < len a ∨ (len a = len b ∧ met a ≠ 0 ∧ met b = 0)
def ordOK (met len : Int → Int) (n : Int) (o : Int → Int) : Prop :=
  (∀ p, 0 ≤ p → p < n → 0 ≤ o p ∧ o p < n) ∧ (∀ p q, 0 ≤ p → p < q → q < n → ahd met len (o p) (o q)) ∧ (∀ f : Int → Int, sm (fun p => f (o p)) n = sm f n)
def rk (met len : Int → Int) (n k : Int) : Int := sm (fun o => if o ≠ k ∧ ahd met len o k then 1 else 0) n
theorem rk_ord {met len o : Int → Int} {n : Int} (h : ordOK met len n o) (p : Int) (hp : 0 ≤ p ∧ p < n) : rk met len n (o p) = p := by
  unfold rk
  rw [← h.2.2]
  refine sm_p _ _ _ (by omega) fun q a b => ?_
  by_cases c : q < p
  · have h1 := h.2.1 q p a c hp.2
    rw [if_pos c, if_pos ⟨fun e => by rw [e] at h1; omega, h1⟩]
  · rw [if_neg c]
    by_cases d : q = p
    · rw [d, if_neg (fun z => z.1 rfl)]
    · have h1 := h.2.1 p q hp.1 (by omega) b
      rw [if_neg (fun z => ?_)]
      have := z.2
      omega
theorem sm_1 (k n : Int) (h : 0 ≤ k ∧ k < n) : sm (fun q => if q = k then 1 else 0) n = 1 := by
  have h1 := sm_up (fun _ => 0) k 1 n h
  rw [sm_z (fun _ => 0) n (fun _ _ _ => rfl)] at h1
  rw [sm_c (fun q => if q = k then 1 else 0) (gu (fun _ => 0) k 1) n (fun q _ _ => rfl), h1]
  rfl
theorem ord_surj {met len o : Int → Int} {n : Int} (h : ordOK met len n o) (k : Int) (hk : 0 ≤ k ∧ k < n) : ∃ p, (0 ≤ p ∧ p < n) ∧ o p = k := by
  apply Classical.byContradiction
  intro q
  have h1 := h.2.2 (fun q => if q = k then 1 else 0)
  rw [sm_1 k n hk, sm_z _ n (fun p a b => if_neg (fun e => q ⟨p, ⟨a, b⟩, e⟩))] at h1
  omega
theorem rk_b {met len o : Int → Int} {n : Int} (h : ordOK met len n o) (k : Int) (hk : 0 ≤ k ∧ k < n) : (0 ≤ rk met len n k ∧ rk met len n k < n) ∧ o (rk met len n k) = k := by
  obtain ⟨p, hp, rfl⟩ := ord_surj h k hk
  rw [rk_ord h p hp]
  exact ⟨hp, rfl⟩
theorem rk_inj {met len o : Int → Int} {n : Int} (h : ordOK met len n o) (j k : Int) (hj : 0 ≤ j ∧ j < n) (hk : 0 ≤ k ∧ k < n) (e : rk met len n j = rk met len n k) : j = k := by
  rw [← (rk_b h j hj).2, ← (rk_b h k hk).2, e]
/-! the fewest -/
def IsMn (f : Int → Int) (L T w v : Int) : Prop := v ≤ 1000000 ∧ (∀ c, 0 ≤ c → c ≤ T → c * L ≤ w → v ≤ c + f (w - c * L)) ∧ (v = 1000000 ∨ ∃ c, (0 ≤ c ∧ c ≤ T) ∧ c * L ≤ w ∧ v = c + f (w - c * L))
theorem IsMn.uniq {f : Int → Int} {L T w a b : Int} (ha : IsMn f L T w a) (hb : IsMn f L T w b) : a = b := by
  obtain ⟨a1, a2, a3⟩ := ha
  obtain ⟨b1, b2, b3⟩ := hb
  have x : a ≤ b := by
    rcases b3 with q | ⟨c, c1, c2, c3⟩
    · omega
    · rw [c3]; exact a2 c c1.1 c1.2 c2
  have y : b ≤ a := by
    rcases a3 with q | ⟨c, c1, c2, c3⟩
    · omega
    · rw [c3]; exact b2 c c1.1 c1.2 c2
  omega
theorem IsMn.zero {f : Int → Int} {L w : Int} (hw : 0 ≤ w) (hf : f w ≤ 1000000) : IsMn f L 0 w (f w) := by
  refine ⟨hf, fun c a b _ => ?_, Or.inr ⟨0, by omega, by rw [Int.zero_mul]; exact hw, by rw [Int.zero_mul, Int.sub_zero]; omega⟩⟩
  rw [show c = 0 by omega, Int.zero_mul, Int.sub_zero]
  omega
theorem IsMn.step {f : Int → Int} {L T w u a b : Int} (hu : 0 < u ∧ u ≤ T + 1) (hL : 0 ≤ L) (ha : IsMn f L T w a) (hb : L * u ≤ w → IsMn f L T (w - L * u) b) : IsMn f L (T + u) w (if L * u ≤ w ∧ b + u < a then b + u else a) := by
  have hm : 0 ≤ L * u := Int.mul_nonneg hL (by omega)
  obtain ⟨a1, a2, a3⟩ := ha
  have hsub : ∀ c : Int, w - c * L = w - L * u - (c - u) * L := fun c => by rw [Int.sub_mul, Int.mul_comm u L]; omega
  have hsub2 : ∀ c : Int, c * L = (c - u) * L + L * u := fun c => by rw [Int.sub_mul, Int.mul_comm u L]; omega
  refine ⟨?_, fun c c1 c2 c3 => ?_, ?_⟩
  · split <;> omega
  · by_cases hc : c ≤ T
    · have := a2 c c1 hc c3
      split <;> omega
    · have h0 : 0 ≤ (c - u) * L := Int.mul_nonneg (by omega) hL
      have h1 := hsub2 c
      have h2 : L * u ≤ w := by omega
      have h3 := (hb h2).2.1 (c - u) (by omega) (by omega) (by omega)
      rw [hsub c]
      split <;> omega
  · split
    case isTrue q =>
      right
      rcases (hb q.1).2.2 with z | ⟨c, c1, c2, c3⟩
      · omega
      · have h1 := hsub2 (c + u)
        have h2 := hsub (c + u)
        rw [show c + u - u = c by omega] at h1 h2
        refine ⟨c + u, by omega, by omega, ?_⟩
        rw [h2, c3]
        omega
    case isFalse q =>
      rcases a3 with z | ⟨c, c1, c2, c3⟩
      · exact Or.inl z
      · exact Or.inr ⟨c, by omega, c2, c3⟩
def mnN (f : Int → Int) (L w : Int) : Nat → Int
  | 0 => 1000000
  | c + 1 => if c + f (w - c * L) < mnN f L w c then c + f (w - c * L) else mnN f L w c
theorem mnN_is (f : Int → Int) (L w : Int) : ∀ m : Nat, mnN f L w m ≤ 1000000 ∧ (∀ c : Int, 0 ≤ c → c < m → mnN f L w m ≤ c + f (w - c * L)) ∧ (mnN f L w m = 1000000 ∨ ∃ c : Int, (0 ≤ c ∧ c < m) ∧ mnN f L w m = c + f (w - c * L))
  | 0 => ⟨Int.le_refl _, fun c a b => by omega, Or.inl rfl⟩
  | m + 1 => by
    obtain ⟨h1, h2, h3⟩ := mnN_is f L w m
    unfold mnN
    split
    case isTrue q =>
      refine ⟨by omega, fun c a b => ?_, Or.inr ⟨m, by omega, rfl⟩⟩
      by_cases e : c = m
      · rw [e]; omega
      · have := h2 c a (by omega); omega
    case isFalse q =>
      refine ⟨h1, fun c a b => ?_, ?_⟩
      · by_cases e : c = m
        · rw [e]; omega
        · exact h2 c a (by omega)
      · rcases h3 with z | ⟨c, c1, c2⟩
        · exact Or.inl z
        · exact Or.inr ⟨c, by omega, c2⟩
def bnd (L st w : Int) : Int := (if st < w / L then st else w / L) + 1
theorem bnd_lt (L st w c : Int) (hL : 0 < L) : c < bnd L st w ↔ c ≤ st ∧ c * L ≤ w := by
  unfold bnd
  have h := Int.le_ediv_iff_mul_le (a := c) (b := w) hL
  split <;> omega
theorem bnd_0 (L st w : Int) (hL : 0 < L) (h : 0 ≤ st ∧ 0 ≤ w) : 1 ≤ bnd L st w := by
  have := (bnd_lt L st w 0 hL).mpr ⟨h.1, by rw [Int.zero_mul]; exact h.2⟩
  omega
def mnb (f : Int → Int) (L st w : Int) : Int := mnN f L w (bnd L st w).toNat
theorem mnb_is (f : Int → Int) (L st w : Int) (hL : 0 < L) (h : 0 ≤ st ∧ 0 ≤ w) : IsMn f L st w (mnb f L st w) := by
  have h0 := bnd_0 L st w hL h
  have h1 := mnN_is f L w (bnd L st w).toNat
  rw [show (((bnd L st w).toNat : Nat) : Int) = bnd L st w by omega] at h1
  refine ⟨h1.1, fun c a b d => h1.2.1 c a ((bnd_lt L st w c hL).mpr ⟨b, d⟩), ?_⟩
  rcases h1.2.2 with z | ⟨c, c1, c2⟩
  · exact Or.inl z
  · have := (bnd_lt L st w c hL).mp c1.2
    exact Or.inr ⟨c, ⟨c1.1, this.1⟩, this.2, c2⟩
theorem mnN_0 (f : Int → Int) (L w : Int) (hf : ∀ z, 0 ≤ f z) : ∀ m : Nat, 0 ≤ mnN f L w m
  | 0 => by show (0 : Int) ≤ 1000000; omega
  | m + 1 => by
    have h1 := mnN_0 f L w hf m
    have h2 := hf (w - m * L)
    unfold mnN
    split <;> omega
def fwN (n : Int) (o len st : Int → Int) : Nat → Int → Int
  | 0 => fun s => if s = 0 then 0 else 1000000
  | j + 1 => fun s => mnb (fwN n o len st j) (len (o (n - 1 - j))) (st (o (n - 1 - j))) s
def FW (n : Int) (o len st : Int → Int) (p s : Int) : Int := fwN n o len st (n - p).toNat s
theorem FW_n (n : Int) (o len st : Int → Int) (s : Int) : FW n o len st n s = if s = 0 then 0 else 1000000 := by
  unfold FW
  rw [show n - n = 0 by omega]
  rfl
theorem FW_p (n : Int) (o len st : Int → Int) (p s : Int) (h : p < n) : FW n o len st p s = mnb (FW n o len st (p + 1)) (len (o p)) (st (o p)) s := by
  unfold FW
  rw [show (n - p).toNat = (n - (p + 1)).toNat + 1 by omega]
  show mnb (fwN n o len st (n - (p + 1)).toNat) (len (o (n - 1 - ((n - (p + 1)).toNat : Nat)))) (st (o (n - 1 - ((n - (p + 1)).toNat : Nat)))) s = _
  rw [show n - 1 - (((n - (p + 1)).toNat : Nat) : Int) = p by omega]
theorem FW_b (n : Int) (o len st : Int → Int) (p s : Int) : 0 ≤ FW n o len st p s ∧ FW n o len st p s ≤ 1000000 := by
  have key : ∀ (j : Nat) (s : Int), 0 ≤ fwN n o len st j s ∧ fwN n o len st j s ≤ 1000000 := by
    intro j
    induction j with
    | zero => intro s; show 0 ≤ (if s = 0 then (0 : Int) else 1000000) ∧ (if s = 0 then (0 : Int) else 1000000) ≤ 1000000; split <;> omega
    | succ j ih =>
      intro s
      exact ⟨mnN_0 _ _ _ (fun z => (ih z).1) _, (mnN_is _ _ _ _).1⟩
  exact key _ _
/-- kinds beyond those of the order, and what is asked of lengths that nothing reaches, don't matter -/
theorem mnN_cong (f h : Int → Int) (L w : Int) : ∀ m : Nat, (∀ c : Int, 0 ≤ c → c < m → f (w - c * L) = h (w - c * L)) → mnN f L w m = mnN h L w m
  | 0, _ => rfl
  | m + 1, e => by
    unfold mnN
    rw [mnN_cong f h L w m (fun c a b => e c a (by omega)), e m (by omega) (by omega)]
/-! the choice -/
def moN (f1 : Int → Int) (v L w : Int) : Nat → Int
  | 0 => 0
  | c + 1 => if c + f1 (w - c * L) = v then c else moN f1 v L w c
theorem moN_b (f1 : Int → Int) (v L w : Int) : ∀ m : Nat, 0 ≤ moN f1 v L w m ∧ (moN f1 v L w m = 0 ∨ moN f1 v L w m < m)
  | 0 => ⟨Int.le_refl _, Or.inl rfl⟩
  | m + 1 => by
    have h := moN_b f1 v L w m
    unfold moN
    split <;> omega
theorem moN_is (f1 : Int → Int) (v L w : Int) : ∀ m : Nat, (∃ c, (0 ≤ c ∧ c < (m : Int)) ∧ c + f1 (w - c * L) = v) → moN f1 v L w m + f1 (w - moN f1 v L w m * L) = v
  | 0, ⟨c, h, _⟩ => by omega
  | m + 1, ⟨c, h, e⟩ => by
    unfold moN
    split
    case isTrue q => exact q
    case isFalse q =>
      refine moN_is f1 v L w m ⟨c, ⟨h.1, ?_⟩, e⟩
      by_cases z : c = m
      · rw [z] at e; exact absurd e q
      · omega
def mob (f1 : Int → Int) (v L st w : Int) : Int := moN f1 v L w (bnd L st w).toNat
theorem mob_b (f1 : Int → Int) (v L st w : Int) (hL : 0 < L) (h : 0 ≤ st ∧ 0 ≤ w) : (0 ≤ mob f1 v L st w ∧ mob f1 v L st w ≤ st) ∧ mob f1 v L st w * L ≤ w := by
  have h0 := bnd_0 L st w hL h
  have h1 := moN_b f1 v L w (bnd L st w).toNat
  unfold mob
  rcases h1.2 with z | z
  · rw [z, Int.zero_mul]; omega
  · have := (bnd_lt L st w _ hL).mp (show moN f1 v L w (bnd L st w).toNat < bnd L st w by omega)
    exact ⟨⟨h1.1, this.1⟩, this.2⟩
theorem mob_is (f1 : Int → Int) (L st w : Int) (hL : 0 < L) (h : 0 ≤ st ∧ 0 ≤ w) (hv : mnb f1 L st w < 1000000) : mob f1 (mnb f1 L st w) L st w + f1 (w - mob f1 (mnb f1 L st w) L st w * L) = mnb f1 L st w := by
  have h0 := bnd_0 L st w hL h
  have h1 := mnN_is f1 L w (bnd L st w).toNat
  refine moN_is f1 _ L w _ ?_
  rcases h1.2.2 with z | ⟨c, c1, c2⟩
  · exact absurd z (by unfold mnb at hv; omega)
  · exact ⟨c, c1, c2.symm⟩
def reN (n : Int) (o len st : Int → Int) (s : Int) : Nat → Int
  | 0 => s
  | p + 1 => reN n o len st s p - mob (FW n o len st (p + 1)) (FW n o len st p (reN n o len st s p)) (len (o p)) (st (o p)) (reN n o len st s p) * len (o p)
def tk (n : Int) (o len st : Int → Int) (s p : Int) : Int := mob (FW n o len st (p + 1)) (FW n o len st p (reN n o len st s p.toNat)) (len (o p)) (st (o p)) (reN n o len st s p.toNat)
theorem reN_s (n : Int) (o len st : Int → Int) (s p : Int) (h : 0 ≤ p) : reN n o len st s (p + 1).toNat = reN n o len st s p.toNat - tk n o len st s p * len (o p) := by
  rw [show (p + 1).toNat = p.toNat + 1 by omega]
  unfold tk
  show reN n o len st s p.toNat - mob (FW n o len st ((p.toNat : Int) + 1)) (FW n o len st p.toNat (reN n o len st s p.toNat)) (len (o p.toNat)) (st (o p.toNat)) (reN n o len st s p.toNat) * len (o p.toNat) = _
  rw [show ((p.toNat : Nat) : Int) = p by omega]
abbrev kindsOK (n : Int) (o len st : Int → Int) : Prop := ∀ p, 0 ≤ p → p < n → (0 ≤ o p ∧ o p < n) ∧ 0 < len (o p) ∧ 0 ≤ st (o p)
theorem reN_b {n : Int} {o len st : Int → Int} {s : Int} (hk : kindsOK n o len st) (hs : 0 ≤ s) : ∀ p : Nat, (p : Int) ≤ n → 0 ≤ reN n o len st s p ∧ reN n o len st s p ≤ s
  | 0, _ => ⟨hs, Int.le_refl _⟩
  | p + 1, hp => by
    have ih := reN_b hk hs p (by omega)
    obtain ⟨k1, k2, k3⟩ := hk p (by omega) (by omega)
    have h1 := mob_b (FW n o len st (p + 1)) (FW n o len st p (reN n o len st s p)) (len (o p)) (st (o p)) (reN n o len st s p) k2 ⟨k3, ih.1⟩
    have h2 := Int.mul_nonneg h1.1.1 (show 0 ≤ len (o p) by omega)
    unfold reN
    omega
theorem tk_b {n : Int} {o len st : Int → Int} {s : Int} (hk : kindsOK n o len st) (hs : 0 ≤ s) (p : Int) (hp : 0 ≤ p ∧ p < n) : (0 ≤ tk n o len st s p ∧ tk n o len st s p ≤ st (o p)) ∧ tk n o len st s p * len (o p) ≤ reN n o len st s p.toNat := by
  obtain ⟨k1, k2, k3⟩ := hk p hp.1 hp.2
  exact mob_b _ _ _ _ _ k2 ⟨k3, (reN_b hk hs p.toNat (by omega)).1⟩
/-- the choice adds up -/
theorem tk_sum {n : Int} {o len st : Int → Int} {s : Int} (hk : kindsOK n o len st) (hs : 0 ≤ s) (hF : FW n o len st 0 s < 1000000) : ∀ p : Nat, (p : Int) ≤ n →
    FW n o len st p (reN n o len st s p) < 1000000 ∧ FW n o len st 0 s = sm (tk n o len st s) p + FW n o len st p (reN n o len st s p) ∧ s = sm (fun q => tk n o len st s q * len (o q)) p + reN n o len st s p
  | 0, _ => ⟨hF, by show _ = (0 : Int) + _; rw [Int.zero_add]; rfl, by show s = (0 : Int) + s; omega⟩
  | p + 1, hp => by
    obtain ⟨h1, h2, h3⟩ := tk_sum hk hs hF p (by omega)
    have hb := reN_b hk hs p (by omega)
    obtain ⟨k1, k2, k3⟩ := hk p (by omega) (by omega)
    have e := FW_p n o len st p (reN n o len st s p) (by omega)
    have h4 := mob_is (FW n o len st (p + 1)) (len (o p)) (st (o p)) (reN n o len st s p) k2 ⟨k3, hb.1⟩ (by rw [← e]; exact h1)
    rw [← e] at h4
    have e2 : tk n o len st s p = mob (FW n o len st (p + 1)) (FW n o len st p (reN n o len st s p)) (len (o p)) (st (o p)) (reN n o len st s p) := rfl
    rw [← e2] at h4
    have e3 := reN_s n o len st s p (by omega)
    rw [show ((p : Int) + 1).toNat = p + 1 by omega, show ((p : Int)).toNat = p by omega] at e3
    have hb0 := (tk_b hk hs p ⟨by omega, by omega⟩).1.1
    rw [show ((p + 1 : Nat) : Int) = (p : Int) + 1 by omega, sm_s _ _ (by omega), sm_s _ _ (by omega), e3]
    refine ⟨by omega, by omega, by omega⟩
theorem tk_all {met : Int → Int} {n : Int} {o len st : Int → Int} {s : Int} (hn : 0 ≤ n) (ho : ordOK met len n o) (hk : kindsOK n o len st) (hs : 0 ≤ s) (hF : FW n o len st 0 s < 1000000) (ch : Int → Int) (hc : ∀ p, 0 ≤ p → p < n → ch (o p) = tk n o len st s p) :
    sm ch n = FW n o len st 0 s ∧ sm (fun k => ch k * len k) n = s := by
  obtain ⟨h1, h2, h3⟩ := tk_sum hk hs hF n.toNat (by omega)
  rw [show ((n.toNat : Nat) : Int) = n by omega, FW_n] at h1 h2
  rw [show ((n.toNat : Nat) : Int) = n by omega] at h3
  have h4 : reN n o len st s n.toNat = 0 := by
    apply Classical.byContradiction
    intro q
    rw [if_neg q] at h1
    omega
  rw [if_pos h4] at h2
  rw [← ho.2.2 ch, ← ho.2.2 (fun k => ch k * len k), sm_c (fun p => ch (o p)) (tk n o len st s) n hc, sm_c (fun p => ch (o p) * len (o p)) (fun q => tk n o len st s q * len (o q)) n (fun p a b => by rw [hc p a b])]
  exact ⟨by omega, by omega⟩
/-! the opening -/
def chN (F : Int → Int) (rm : Int) : Nat → Int × Int
  | 0 => (1000000, -1)
  | j + 1 => if 0 ≤ rm - j ∧ F (rm - j) < (chN F rm j).1 then (F (rm - j), (j : Int)) else chN F rm j
theorem chN_b (F : Int → Int) (rm : Int) (hF : ∀ z, 0 ≤ F z) : ∀ j : Nat, (0 ≤ (chN F rm j).1 ∧ (chN F rm j).1 ≤ 1000000) ∧ (-1 ≤ (chN F rm j).2 ∧ (chN F rm j).2 < j) ∧ ((chN F rm j).1 = 1000000 ∧ (chN F rm j).2 = -1 ∨ (0 ≤ (chN F rm j).2 ∧ 0 ≤ rm - (chN F rm j).2) ∧ F (rm - (chN F rm j).2) = (chN F rm j).1 ∧ (chN F rm j).1 < 1000000)
  | 0 => by show (0 ≤ (1000000 : Int) ∧ (1000000 : Int) ≤ 1000000) ∧ (-1 ≤ (-1 : Int) ∧ (-1 : Int) < ((0 : Nat) : Int)) ∧ ((1000000 : Int) = 1000000 ∧ (-1 : Int) = -1 ∨ _); exact ⟨by omega, by omega, Or.inl ⟨rfl, rfl⟩⟩
  | j + 1 => by
    have ih := chN_b F rm hF j
    have h0 := hF (rm - j)
    unfold chN
    split
    case isTrue q => dsimp only; exact ⟨by omega, by omega, Or.inr ⟨by omega, rfl, by omega⟩⟩
    case isFalse q => exact ⟨ih.1, by omega, ih.2.2⟩
/-! the ways -/
def wsN (f : Int → Int) (L w : Int) : Nat → Int
  | 0 => 0
  | c + 1 => (wsN f L w c + f (w - c * L)) % 1000003
theorem wsN_sm (f : Int → Int) (L w : Int) : ∀ m : Nat, wsN f L w m = sm (fun c => f (w - c * L)) m % 1000003
  | 0 => rfl
  | m + 1 => by
    unfold wsN
    rw [wsN_sm f L w m, show ((m + 1 : Nat) : Int) = (m : Int) + 1 by omega, sm_s _ _ (by omega)]
    omega
def wyN (len st : Int → Int) : Nat → Int → Int
  | 0 => fun s => if s = 0 then 1 else 0
  | k + 1 => fun s => wsN (wyN len st k) (len k) s (bnd (len k) (st k) s).toNat
theorem wsN_b (f : Int → Int) (L w : Int) : ∀ m : Nat, 0 ≤ wsN f L w m ∧ wsN f L w m < 1000003
  | 0 => by show (0 : Int) ≤ 0 ∧ (0 : Int) < 1000003; omega
  | m + 1 => by unfold wsN; omega
theorem wyN_b (len st : Int → Int) : ∀ (k : Nat) (s : Int), 0 ≤ wyN len st k s ∧ wyN len st k s < 1000003
  | 0, s => by show 0 ≤ (if s = 0 then (1 : Int) else 0) ∧ (if s = 0 then (1 : Int) else 0) < 1000003; split <;> omega
  | k + 1, s => wsN_b _ _ _ _
theorem sm_head (f : Int → Int) (n : Int) (h : 0 ≤ n) : sm f (n + 1) = f 0 + sm (fun c => f (c + 1)) n := by
  have key : ∀ m : Nat, smN f (m + 1) = f 0 + smN (fun c => f (c + 1)) m := by
    intro m
    induction m with
    | zero => show (0 : Int) + f 0 = f 0 + 0; omega
    | succ m ih =>
      show smN f (m + 1) + f ((m + 1 : Nat) : Int) = f 0 + (smN (fun c => f (c + 1)) m + f ((m : Int) + 1))
      rw [ih, show ((m + 1 : Nat) : Int) = (m : Int) + 1 by omega]
      omega
  unfold sm
  rw [show (n + 1).toNat = n.toNat + 1 by omega]
  exact key _
/-- the sum over all counts, by that for a length less by one piece -/
theorem ws_slide (f : Int → Int) (L st w : Int) (hL : 0 < L) (h : 0 ≤ st ∧ L ≤ w) : sm (fun c => f (w - c * L)) (bnd L st w) = f w + sm (fun c => f (w - L - c * L)) (bnd L st (w - L)) - (if L * (st + 1) ≤ w then f (w - L * (st + 1)) else 0) := by
  have hd : (w - L) / L = w / L - 1 := by
    rw [show w - L = w + (-1) * L by omega, Int.add_mul_ediv_right _ _ (by omega)]
    omega
  have hq := Int.le_ediv_iff_mul_le (a := st + 1) (b := w) hL
  have h1 := Int.le_ediv_iff_mul_le (a := 1) (b := w) hL
  rw [Int.one_mul] at h1
  rw [Int.mul_comm L (st + 1)]
  have e : ∀ c : Int, w - (c + 1) * L = w - L - c * L := fun c => by rw [Int.add_mul, Int.one_mul]; omega
  unfold bnd
  rw [hd]
  by_cases q : (st + 1) * L ≤ w
  · rw [if_pos q, if_pos (by omega)]
    have e2 : (if st < w / L - 1 then st else w / L - 1) = st := by split <;> omega
    rw [e2, sm_head _ _ h.1, sm_s (fun c => f (w - L - c * L)) st h.1]
    rw [Int.zero_mul, Int.sub_zero, sm_c (fun c => f (w - (c + 1) * L)) (fun c => f (w - L - c * L)) st (fun c _ _ => by rw [e c]), ← e st]
    omega
  · rw [if_neg q, if_neg (by omega), if_neg (by omega), sm_head _ _ (by omega)]
    rw [Int.zero_mul, Int.sub_zero, sm_c (fun c => f (w - (c + 1) * L)) (fun c => f (w - L - c * L)) (w / L) (fun c _ _ => by rw [e c]), show w / L - 1 + 1 = w / L by omega]
    omega
theorem wy_slide (f : Int → Int) (L st w : Int) (hL : 0 < L) (h : 0 ≤ st ∧ L ≤ w) (hf : 0 ≤ f (w - L * (st + 1)) ∧ f (w - L * (st + 1)) < 1000003) :
    wsN f L w (bnd L st w).toNat = (wsN f L (w - L) (bnd L st (w - L)).toNat + f w + (if L * (st + 1) ≤ w then 1000003 - f (w - L * (st + 1)) else 0)) % 1000003 := by
  have h0 := bnd_0 L st w hL ⟨h.1, by omega⟩
  have h1 : 1 ≤ bnd L st (w - L) := bnd_0 L st (w - L) hL ⟨h.1, by omega⟩
  rw [wsN_sm, wsN_sm, show (((bnd L st w).toNat : Nat) : Int) = bnd L st w by omega, show (((bnd L st (w - L)).toNat : Nat) : Int) = bnd L st (w - L) by omega, ws_slide f L st w hL h]
  split <;> omega
theorem wy_low (f : Int → Int) (L st w : Int) (hL : 0 < L) (h : 0 ≤ st ∧ 0 ≤ w) (hw : w < L) (hf : 0 ≤ f w ∧ f w < 1000003) : wsN f L w (bnd L st w).toNat = f w := by
  have h0 := bnd_0 L st w hL h
  have h1 : bnd L st w ≤ 1 := by
    apply Classical.byContradiction
    intro q
    have := ((bnd_lt L st w 1 hL).mp (by omega)).2
    omega
  rw [show (bnd L st w).toNat = 1 by omega]
  show ((0 : Int) + f (w - ((0 : Nat) : Int) * L)) % 1000003 = f w
  rw [show ((0 : Nat) : Int) = 0 from rfl, Int.zero_mul, Int.sub_zero]
  omega
