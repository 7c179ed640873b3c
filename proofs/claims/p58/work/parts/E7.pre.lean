/-! THE LAW'S TEXT: as it is written, it tells these tokens -/
theorem Toks_sk {b : Int → Int} {n p p' : Int} {ts : List Tok} (h : sk b n p = sk b n p') (k : Toks b n p' ts) : Toks b n p ts := by
  cases ts with
  | nil => exact h.trans k
  | cons t ts =>
    obtain ⟨k1, k2, k3⟩ := k
    show sk b n p < n ∧ tokAt b n (sk b n p) t ∧ Toks b n (tkE b n (sk b n p)) ts
    rw [h]
    exact ⟨k1, k2, k3⟩
/-- whatever goes on behind it -/
def PreC (p : TP) (T : List Tok) : Prop := 0 ≤ p.1 ∧ ∀ (b : Int → Int) (n : Int) (ts : List Tok), p.1 ≤ n → (∀ k, 0 ≤ k → k < p.1 → b k = p.2 k) → Toks b n p.1 ts → Toks b n 0 (T ++ ts)
/-- where a blank or a semicolon goes on behind it, or nothing -/
def PreO (p : TP) (T : List Tok) : Prop := 0 ≤ p.1 ∧ ∀ (b : Int → Int) (n : Int) (ts : List Tok), p.1 ≤ n → (∀ k, 0 ≤ k → k < p.1 → b k = p.2 k) → (p.1 < n → b p.1 = 32 ∨ b p.1 = 59) → Toks b n p.1 ts → Toks b n 0 (T ++ ts)
theorem PreO.fin {p : TP} {T : List Tok} (h : PreO p T) : Toks p.2 p.1 0 T := by
  have := h.2 p.2 p.1 [] (Int.le_refl _) (fun _ _ _ => rfl) (fun x => by omega) (sk_3 _ _ _ (Int.le_refl _))
  rw [List.append_nil] at this
  exact this
theorem PreO.sp {p : TP} {T : List Tok} (h : PreO p T) : PreC (tC 32 p) T := by
  refine ⟨by rw [tC_1]; have := h.1; omega, fun b n ts hn hb hT => ?_⟩
  rw [tC_1] at hn hb hT
  have h0 := h.1
  have e32 : b p.1 = 32 := (hb p.1 h.1 (by omega)).trans (gu_s _ _ _)
  exact h.2 b n ts (by omega) (fun k x y => (hb k x (by omega)).trans (gu_n _ _ _ _ (by omega))) (fun _ => Or.inl e32) (Toks_sk (sk_1 b n p.1 (by omega) e32) hT)
/-- a run ends where its bytes end -/
theorem rn_to (b : Int → Int) (n lo hi p e : Int) (hp : p ≤ e ∧ e ≤ n) (hin : ∀ j, p ≤ j → j < e → lo ≤ b j ∧ b j ≤ hi) (hout : e < n → ¬ (lo ≤ b e ∧ b e ≤ hi)) : rn b n lo hi p = e := by
  obtain ⟨r1, r2, r3, r4⟩ := rn_b b n lo hi p (by omega)
  by_cases x : rn b n lo hi p < e
  · exact absurd (hin _ r1 x) (r3 (by omega))
  · by_cases y : e < rn b n lo hi p
    · exact absurd (r4 e hp.1 y) (hout (by omega))
    · omega
theorem nv_1 (b : Int → Int) (F : Int) : nvN b F 1 = b F - 48 := by
  have := nv_s b F 0 (by omega)
  show nvN b F (0 + 1 : Int).toNat = _
  rw [this]
  show 10 * (0 : Int) + b (F + 0) - 48 = _
  rw [Int.add_zero]
  omega
theorem nv_2 (b : Int → Int) (F : Int) : nvN b F 2 = 10 * (b F - 48) + b (F + 1) - 48 := by
  have := nv_s b F 1 (by omega)
  show nvN b F (1 + 1 : Int).toNat = _
  rw [this]
  show 10 * nvN b F 1 + b (F + 1) - 48 = _
  rw [nv_1]
theorem nv_3 (b : Int → Int) (F : Int) : nvN b F 3 = 10 * (10 * (b F - 48) + b (F + 1) - 48) + b (F + 2) - 48 := by
  have := nv_s b F 2 (by omega)
  show nvN b F (2 + 1 : Int).toNat = _
  rw [this]
  show 10 * nvN b F 2 + b (F + 2) - 48 = _
  rw [nv_2]
/-- a number's digits -/
theorem tok_num (b : Int → Int) (n F v : Int) (hv : 0 ≤ v ∧ v ≤ 999) (hn : F + nd v ≤ n) (hb : ∀ k, F ≤ k → k < F + nd v → b k = 48 + dgt v (F + nd v - 1 - k)) (he : F + nd v < n → b (F + nd v) = 32 ∨ b (F + nd v) = 59) : sk b n F = F ∧ F < n ∧ tkS b n F = 2 ∧ tkE b n F = F + nd v ∧ nvN b F (nd v).toNat = v := by
  have hd : ∀ k, F ≤ k → k < F + nd v → 48 ≤ b k ∧ b k ≤ 57 := fun k x y => by
    rw [hb k x y]
    have : 0 ≤ dgt v (F + nd v - 1 - k) ∧ dgt v (F + nd v - 1 - k) ≤ 9 := by
      unfold dgt
      split
      · omega
      · split
        · omega
        · split <;> omega
    omega
  have n1 := nd_b v
  have n3 := nd_3 v (by omega)
  have hF := hd F (by omega) (by omega)
  have hr := rn_to b n 48 57 F (F + nd v) (by omega) hd (fun x => by have := he x; omega)
  refine ⟨sk_2 _ _ _ (by omega), by omega, ?_, ?_, ?_⟩
  · unfold tkS
    rw [if_neg (by omega), if_neg (by omega), if_pos hF, hr, if_neg (by omega)]
  · unfold tkE
    rw [if_neg (by omega), if_neg (by omega), if_pos hF, hr]
  · by_cases y1 : v < 10
    · have e : nd v = 1 := if_pos y1
      rw [e] at hb ⊢
      show nvN b F 1 = v
      rw [nv_1, hb F (by omega) (by omega), show F + 1 - 1 - F = 0 by omega]
      show 48 + v % 10 - 48 = v
      omega
    · by_cases y2 : v < 100
      · have e : nd v = 2 := (if_neg y1).trans (if_pos y2)
        rw [e] at hb ⊢
        show nvN b F 2 = v
        rw [nv_2, hb F (by omega) (by omega), hb (F + 1) (by omega) (by omega), show F + 2 - 1 - F = 1 by omega, show F + 2 - 1 - (F + 1) = 0 by omega]
        show 10 * (48 + v / 10 % 10 - 48) + (48 + v % 10) - 48 = v
        omega
      · have e : nd v = 3 := (if_neg y1).trans ((if_neg y2).trans (if_pos (by omega)))
        rw [e] at hb ⊢
        show nvN b F 3 = v
        rw [nv_3, hb F (by omega) (by omega), hb (F + 1) (by omega) (by omega), hb (F + 2) (by omega) (by omega), show F + 3 - 1 - F = 2 by omega, show F + 3 - 1 - (F + 1) = 1 by omega, show F + 3 - 1 - (F + 2) = 0 by omega]
        show 10 * (10 * (48 + v / 100 % 10 - 48) + (48 + v / 10 % 10) - 48) + (48 + v % 10) - 48 = v
        omega
theorem PreC.num {p : TP} {T : List Tok} (h : PreC p T) (v : Int) (hv : 0 ≤ v ∧ v ≤ 999) : PreO (tN v p) (T ++ [(2, v)]) := by
  have n1 := nd_b v
  have h0 := h.1
  refine ⟨by rw [tN_1]; omega, fun b n ts hn hb he hT => ?_⟩
  rw [tN_1] at hn hb he hT
  have hb1 : ∀ k, 0 ≤ k → k < p.1 → b k = p.2 k := fun k x y => (hb k x (by omega)).trans (if_neg (by omega))
  have hb2 : ∀ k, p.1 ≤ k → k < p.1 + nd v → b k = 48 + dgt v (p.1 + nd v - 1 - k) := fun k x y => (hb k (by omega) y).trans (if_pos ⟨x, y⟩)
  obtain ⟨k1, k2, k3, k4, k5⟩ := tok_num b n p.1 v hv hn hb2 he
  rw [List.append_assoc]
  refine h.2 b n ((2, v) :: ts) (by omega) hb1 ?_
  show sk b n p.1 < n ∧ tokAt b n (sk b n p.1) (2, v) ∧ Toks b n (tkE b n (sk b n p.1)) ts
  rw [k1]
  refine ⟨k2, ⟨⟨k3, (by decide : (1 : Int) ≤ 2 ∧ (2 : Int) ≤ 3)⟩, fun x => absurd x (by decide : ¬ (2 : Int) = 1), fun _ => ?_⟩, by rw [k4]; exact hT⟩
  show nvN b p.1 (tkE b n p.1 - p.1).toNat = v
  rw [k4, show p.1 + nd v - p.1 = nd v by omega]
  exact k5
/-- a word's letters, a blank behind them -/
theorem tok_word (b : Int → Int) (n F : Int) (y : Nat) (hl : 1 ≤ wlen y ∧ wlen y ≤ 5) (hy : ∀ i, i < wlen y → 97 ≤ wb y i ∧ wb y i ≤ 122) (hn : F + wlen y + 1 ≤ n) (hb : ∀ i : Nat, i < wlen y → b (F + i) = wb y i) (he : b (F + wlen y) = 32) : sk b n F = F ∧ F < n ∧ tokAt b n F (1, (y : Int)) ∧ tkE b n F = F + wlen y := by
  have hd : ∀ k, F ≤ k → k < F + wlen y → 97 ≤ b k ∧ b k ≤ 122 := fun k x z => by
    have := hb (k - F).toNat (by omega)
    rw [show F + (((k - F).toNat : Nat) : Int) = k by omega] at this
    rw [this]
    exact hy _ (by omega)
  have hF := hd F (by omega) (by omega)
  have hr := rn_to b n 97 122 F (F + wlen y) (by omega) hd (fun x => by omega)
  have e4 : tkE b n F = F + wlen y := by
    unfold tkE
    rw [if_neg (by omega), if_pos hF, hr]
  refine ⟨sk_2 _ _ _ (by omega), by omega, ⟨⟨?_, (by decide : (1 : Int) ≤ 1 ∧ (1 : Int) ≤ 3)⟩, fun _ => ⟨?_, fun j x z => ?_⟩, fun x => absurd x (by decide : ¬ (1 : Int) = 2)⟩, e4⟩
  · unfold tkS
    rw [if_neg (by omega), if_pos hF, hr, if_neg (by omega)]
  · show tkE b n F - F = ((wlen y : Nat) : Int)
    omega
  · show b (F + j) = wb y j.toNat
    have z : j < ((wlen y : Nat) : Int) := z
    have := hb j.toNat (by omega)
    rw [show F + ((j.toNat : Nat) : Int) = F + j by omega] at this
    exact this
/-- these words of the law, and of the class -/
def lwOK (x y : Nat) : Prop := (1 ≤ wlen y ∧ wlen y ≤ 5) ∧ wlen x = wlen y + 2 ∧ (∀ i, i < wlen y → (97 ≤ wb y i ∧ wb y i ≤ 122) ∧ wb x (i + 1) = wb y i) ∧ wb x 0 = 59 ∧ wb x (wlen y + 1) = 32
theorem lw_37 : lwOK 1000037 1000027 := by unfold lwOK; decide +kernel
theorem lw_38 : lwOK 1000038 1000029 := by unfold lwOK; decide +kernel
theorem lw_39 : lwOK 1000039 1000028 := by unfold lwOK; decide +kernel
theorem lw_40 : lwOK 1000040 1000030 := by unfold lwOK; decide +kernel
theorem PreO.word {p : TP} {T : List Tok} (h : PreO p T) (x y : Nat) (hw : lwOK x y) : PreC (tS x p) (T ++ [(3, 0), (1, (y : Int))]) := by
  obtain ⟨hl, hx, hy, h59, h32⟩ := hw
  have h0 := h.1
  have e1 : (tS x p).1 = p.1 + wlen y + 2 := by
    show p.1 + ((wlen x : Nat) : Int) = _
    omega
  refine ⟨by omega, fun b n ts hn hb hT => ?_⟩
  rw [e1] at hn hb hT
  have hb1 : ∀ k, 0 ≤ k → k < p.1 → b k = p.2 k := fun k u v => (hb k u (by omega)).trans (if_neg (by omega))
  have hb2 : ∀ i : Nat, i < wlen x → b (p.1 + i) = wb x i := fun i u => by
    have := hb (p.1 + i) (by omega) (by omega)
    rw [this]
    show (if p.1 ≤ p.1 + (i : Int) ∧ p.1 + (i : Int) < p.1 + ((wlen x : Nat) : Int) then wb x (p.1 + (i : Int) - p.1).toNat else _) = _
    rw [if_pos (by omega), show (p.1 + (i : Int) - p.1).toNat = i by omega]
  have b0 : b p.1 = 59 := by
    have := hb2 0 (by omega)
    rw [show p.1 + ((0 : Nat) : Int) = p.1 by omega] at this
    exact this.trans h59
  have b3 : ∀ i : Nat, i < wlen y → b (p.1 + 1 + i) = wb y i := fun i u => by
    have := hb2 (i + 1) (by omega)
    rw [show p.1 + ((i + 1 : Nat) : Int) = p.1 + 1 + i by omega] at this
    exact this.trans (hy i u).2
  have b4 : b (p.1 + 1 + wlen y) = 32 := by
    have := hb2 (wlen y + 1) (by omega)
    rw [show p.1 + ((wlen y + 1 : Nat) : Int) = p.1 + 1 + wlen y by omega] at this
    exact this.trans h32
  obtain ⟨k1, k2, k3, k4⟩ := tok_word b n (p.1 + 1) y hl (fun i u => (hy i u).1) (by omega) b3 b4
  have s1 : sk b n p.1 = p.1 := sk_2 _ _ _ (by omega)
  have s2 : tkS b n p.1 = 3 := by
    unfold tkS
    rw [if_neg (by omega), if_neg (by omega), if_neg (by omega), if_pos b0]
  have s3 : tkE b n p.1 = p.1 + 1 := by
    unfold tkE
    rw [if_neg (by omega), if_neg (by omega), if_neg (by omega)]
  rw [List.append_assoc]
  refine h.2 b n ((3, 0) :: (1, (y : Int)) :: ts) (by omega) hb1 (fun _ => Or.inr b0) ?_
  show sk b n p.1 < n ∧ tokAt b n (sk b n p.1) (3, 0) ∧ Toks b n (tkE b n (sk b n p.1)) ((1, (y : Int)) :: ts)
  rw [s1, s3]
  refine ⟨by omega, ⟨⟨s2, by decide⟩, fun x => absurd x (by decide), fun x => absurd x (by decide)⟩, ?_⟩
  show sk b n (p.1 + 1) < n ∧ tokAt b n (sk b n (p.1 + 1)) (1, (y : Int)) ∧ Toks b n (tkE b n (sk b n (p.1 + 1))) ts
  rw [k1, k4]
  refine ⟨k2, k3, Toks_sk (sk_1 b n _ (by omega) b4) ?_⟩
  rw [show p.1 + 1 + ((wlen y : Nat) : Int) + 1 = p.1 + wlen y + 2 by omega]
  exact hT
theorem lw_36 : (1 ≤ wlen 1000026 ∧ wlen 1000026 ≤ 5) ∧ wlen 1000036 = wlen 1000026 + 1 ∧ (∀ i, i < wlen 1000026 → (97 ≤ wb 1000026 i ∧ wb 1000026 i ≤ 122) ∧ wb 1000036 i = wb 1000026 i) ∧ wb 1000036 (wlen 1000026) = 32 := by decide +kernel
theorem Pre_0 : PreC (tS 1000036 tP0) [(1, ((1000026 : Nat) : Int))] := by
  obtain ⟨hl, hx, hy, h32⟩ := lw_36
  have e1 : (tS 1000036 tP0).1 = (wlen 1000026 : Nat) + 1 := by
    show (0 : Int) + ((wlen 1000036 : Nat) : Int) = _
    omega
  refine ⟨by omega, fun b n ts hn hb hT => ?_⟩
  rw [e1] at hn hb hT
  have hb2 : ∀ i : Nat, i < wlen 1000036 → b (0 + i) = wb 1000036 i := fun i u => by
    have := hb (0 + i) (by omega) (by omega)
    rw [this]
    show (if (0 : Int) ≤ 0 + (i : Int) ∧ 0 + (i : Int) < 0 + ((wlen 1000036 : Nat) : Int) then wb 1000036 (0 + (i : Int) - 0).toNat else _) = _
    rw [if_pos (by omega), show (0 + (i : Int) - 0).toNat = i by omega]
  obtain ⟨k1, k2, k3, k4⟩ := tok_word b n 0 1000026 hl (fun i u => (hy i u).1) (by omega) (fun i u => (hb2 i (by omega)).trans (hy i u).2) ((hb2 (wlen 1000026) (by omega)).trans h32)
  show sk b n 0 < n ∧ tokAt b n (sk b n 0) (1, ((1000026 : Nat) : Int)) ∧ Toks b n (tkE b n (sk b n 0)) ts
  rw [k1, k4]
  refine ⟨k2, k3, Toks_sk (sk_1 b n _ (by omega) ((hb2 (wlen 1000026) (by omega)).trans h32)) ?_⟩
  rw [show (0 : Int) + ((wlen 1000026 : Nat) : Int) + 1 = (wlen 1000026 : Nat) + 1 by omega]
  exact hT
