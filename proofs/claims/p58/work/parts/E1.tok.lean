/-! THE LAW'S TEXT: tokens, as the class's reader takes them -/
/-- 1 a word (its number), 2 a number, 3 a semicolon -/
abbrev Tok : Type := Int × Int
abbrev tokAt (b : Int → Int) (n F : Int) (t : Tok) : Prop := (tkS b n F = t.1 ∧ 1 ≤ t.1 ∧ t.1 ≤ 3) ∧ (t.1 = 1 → tkE b n F - F = (wlen t.2.toNat : Nat) ∧ mtch b F t.2.toNat (wlen t.2.toNat : Nat)) ∧ (t.1 = 2 → nvN b F (tkE b n F - F).toNat = t.2)
def Toks (b : Int → Int) (n : Int) : Int → List Tok → Prop
  | p, [] => sk b n p = n
  | p, t :: ts => sk b n p < n ∧ tokAt b n (sk b n p) t ∧ Toks b n (tkE b n (sk b n p)) ts
/-- the reader stands at the first of these -/
def Cur (A : AI) (b : Int → Int) (n : Int) (ts : List Tok) : Prop :=
  (A 1 5 = n ∧ (0 ≤ n ∧ n ≤ 500) ∧ ∀ k, 0 ≤ k → k < n → A (1 + 1) k = b k ∧ 0 ≤ b k ∧ b k ≤ 255) ∧ (A 1 3 = 0 ∧ A 1 4 = -1) ∧ ∃ p, (0 ≤ p ∧ p ≤ n) ∧ (A 1 7 = sk b n p ∧ A 1 6 = tkS b n (sk b n p)) ∧ (ts ≠ [] → A 1 8 = tkE b n (sk b n p)) ∧ (0 ≤ A 1 8 ∧ A 1 8 ≤ 500) ∧ Toks b n p ts
section CUR
variable {c : CC} {A A' : AI} {J : JI} {b : Int → Int} {n : Int} {t : Tok} {ts : List Tok} {v : Int}
theorem Cur.fr (h : Cur A b n ts) (h1 : ∀ z, 3 ≤ z → z ≤ 8 → A' 1 z = A 1 z) (h2 : ∀ z, A' (1 + 1) z = A (1 + 1) z) : Cur A' b n ts := by
  obtain ⟨⟨a5, an, ab⟩, ⟨a3, a4⟩, p, hp, ⟨a7, a6⟩, a8, a9, hT⟩ := h
  refine ⟨⟨by rw [h1 5 (by omega) (by omega)]; exact a5, an, fun k x y => by rw [h2]; exact ab k x y⟩, ⟨by rw [h1 3 (by omega) (by omega)]; exact a3, by rw [h1 4 (by omega) (by omega)]; exact a4⟩, p, hp, ⟨by rw [h1 7 (by omega) (by omega)]; exact a7, by rw [h1 6 (by omega) (by omega)]; exact a6⟩, fun x => by rw [h1 8 (by omega) (by omega)]; exact a8 x, by rw [h1 8 (by omega) (by omega)]; exact a9, hT⟩
theorem Cur.e (h : Cur A b n ts) : A 1 3 = 0 ∧ A 1 4 = -1 := h.2.1
/-- the first token's kind -/
theorem Cur.k (h : Cur A b n (t :: ts)) : A 1 6 = t.1 := by
  obtain ⟨-, -, p, hp, ⟨a7, a6⟩, a8, a9, hlt, ht, hT⟩ := h
  rw [a6]
  exact ht.1.1
theorem Cur.k0 (h : Cur A b n []) : A 1 6 = 0 := by
  obtain ⟨-, -, p, hp, ⟨a7, a6⟩, a8, a9, hT⟩ := h
  have hT : sk b n p = n := hT
  rw [a6, hT]
  exact if_pos (Int.le_refl n)
theorem Cur.adv (hRd : isReader c 1) (h : Cur A b n (t :: ts)) : ∃ A', fX2_advance 1 (CW c A J) = some (Sum.inl none, CW c A' J) ∧ Cur A' b n ts ∧ FAr A A' := by
  obtain ⟨⟨a5, an, ab⟩, ⟨a3, a4⟩, p, hp, ⟨a7, a6⟩, a8, a9, hlt, ht, hT⟩ := h
  have e8 := a8 (List.cons_ne_nil _ _)
  have hs := sk_b b n p hp.2
  have he := tkE_b b n (sk b n p) hs.2.1
  obtain ⟨A', e, ⟨x7, x6, x8, x9, x10⟩, f⟩ := c_adv (c := c) (J := J) hRd ab a5 an (tkE b n (sk b n p)) e8 (by omega)
  refine ⟨A', e, ⟨⟨by rw [f 1 5 (by omega)]; exact a5, an, fun k x y => by rw [f (1 + 1) k (by omega)]; exact ab k x y⟩, ⟨by rw [f 1 3 (by omega)]; exact a3, by rw [f 1 4 (by omega)]; exact a4⟩, tkE b n (sk b n p), by omega, ⟨x7, x6⟩, fun q => x8 ?_, ⟨x9, x10⟩, hT⟩, fun k z q => f k z (fun y => q ⟨y.1, Or.inr y.2⟩)⟩
  cases ts with
  | nil => exact absurd rfl q
  | cons u us =>
    obtain ⟨-, hu, -⟩ := hT
    have := hu.1
    omega
theorem Cur.num (hRd : isReader c 1) (h : Cur A b n ((2, v) :: ts)) (lo hi : Int) (hl : (-1000 ≤ lo ∧ lo ≤ 1000) ∧ -1000 ≤ hi ∧ hi ≤ 1000) (hv : lo ≤ v ∧ v ≤ hi) : ∃ A', fX2_takeNumber 1 (ii lo) (ii hi) (CW c A J) = some (Sum.inl (some (Value.int (ii (v)))), CW c A' J) ∧ Cur A' b n ts ∧ FAr A A' := by
  obtain ⟨A', e, hC, f⟩ := Cur.adv (J := J) hRd h
  obtain ⟨⟨a5, an, ab⟩, ⟨a3, a4⟩, p, hp, ⟨a7, a6⟩, a8, a9, hlt, ⟨ht1, ht2, ht3⟩, hT⟩ := h
  have e8 := a8 (List.cons_ne_nil _ _)
  have hs := sk_b b n p hp.2
  have he := tkE_b b n (sk b n p) hs.2.1
  have k2 : tkS b n (sk b n p) = 2 := ht1.1
  obtain ⟨r1, r2⟩ := he.2.2.2 k2
  have hr := rn_b b n 48 57 (sk b n p) hs.2.1
  have hd : ∀ j, sk b n p ≤ j → j < tkE b n (sk b n p) → 48 ≤ b j ∧ b j ≤ 57 := fun j x y => hr.2.2.2 j x (by omega)
  have hn := c_num (c := c) (J := J) hRd ab a5 an (sk b n p) (tkE b n (sk b n p)) a7 (by omega) e8 (by omega) hd
  have hvv : nvN b (sk b n p) (tkE b n (sk b n p) - sk b n p).toNat = v := ht3 rfl
  have hvb := nv_b b (sk b n p) (tkE b n (sk b n p) - sk b n p).toNat (by omega) (fun j x => hd _ (by omega) (by omega))
  rw [hvv] at hn hvb
  exact ⟨A', c_tnO hRd lo hi v hl a3 (a6.trans k2) hn (by omega) hv e, hC, f⟩
theorem Cur.semi (hRd : isReader c 1) (h : Cur A b n ((3, v) :: ts)) : ∃ A', fX2_takeSemicolon 1 (CW c A J) = some (Sum.inl none, CW c A' J) ∧ Cur A' b n ts ∧ FAr A A' := by
  obtain ⟨A', e, hC, f⟩ := Cur.adv (J := J) hRd h
  have k3 := h.k
  refine ⟨A', ?_, hC, f⟩
  rw [fX2_takeSemicolon, rdI6 hRd, k3, if_pos (show ii 3 = (3 : Int32) from rfl), fX2_takeSemicolon_17, rdI3 hRd, h.e.1, if_pos ii_0, rdV hRd, e, k_C, q_V]
/-- is it this word? -/
theorem Cur.isW (hRd : isReader c 1) (x : Nat) (hx : 1000026 ≤ x ∧ x < 1000036) (h : Cur A b n ((1, (x : Int)) :: ts)) : fX2_isWord 1 x (CW c A J) = some (Sum.inl (some (Value.int (ii (1)))), CW c A J) := by
  obtain ⟨⟨a5, an, ab⟩, ⟨a3, a4⟩, p, hp, ⟨a7, a6⟩, a8, a9, hlt, ⟨ht1, ht2, ht3⟩, hT⟩ := h
  have e8 := a8 (List.cons_ne_nil _ _)
  have hs := sk_b b n p hp.2
  have he := tkE_b b n (sk b n p) hs.2.1
  have k1 : tkS b n (sk b n p) = 1 := ht1.1
  obtain ⟨m1, m2⟩ := ht2 rfl
  have m1 : tkE b n (sk b n p) - sk b n p = (wlen x : Nat) := m1
  have m2 : mtch b (sk b n p) x (wlen x : Nat) := m2
  obtain ⟨v, e, -, -, q⟩ := c_isW (c := c) (J := J) hRd x hx ab a5 an (sk b n p) (tkE b n (sk b n p)) a7 (by omega) e8 (by omega) (by rw [a6, k1]; omega)
  rw [e, (q (a6.trans k1) m1 (by omega)).mpr m2]
theorem Cur.isN (hRd : isReader c 1) (x y : Nat) (hx : 1000026 ≤ x ∧ x < 1000036) (hxy : wlen x ≠ wlen y) (h : Cur A b n ((1, (y : Int)) :: ts)) : fX2_isWord 1 x (CW c A J) = some (Sum.inl (some (Value.int (ii (0)))), CW c A J) := by
  obtain ⟨⟨a5, an, ab⟩, ⟨a3, a4⟩, p, hp, ⟨a7, a6⟩, a8, a9, hlt, ⟨ht1, ht2, ht3⟩, hT⟩ := h
  have e8 := a8 (List.cons_ne_nil _ _)
  have hs := sk_b b n p hp.2
  have he := tkE_b b n (sk b n p) hs.2.1
  have k1 : tkS b n (sk b n p) = 1 := ht1.1
  obtain ⟨m1, m2⟩ := ht2 rfl
  have m1 : tkE b n (sk b n p) - sk b n p = (wlen y : Nat) := m1
  obtain ⟨v, e, -, q, -⟩ := c_isW (c := c) (J := J) hRd x hx ab a5 an (sk b n p) (tkE b n (sk b n p)) a7 (by omega) e8 (by omega) (by rw [a6, k1]; omega)
  rw [e, q (Or.inr (by omega))]
theorem Cur.word (hRd : isReader c 1) (x : Nat) (hx : 1000026 ≤ x ∧ x < 1000036) (h : Cur A b n ((1, (x : Int)) :: ts)) : ∃ A', fX2_takeWord 1 x (CW c A J) = some (Sum.inl none, CW c A' J) ∧ Cur A' b n ts ∧ FAr A A' := by
  obtain ⟨A', e, hC, f⟩ := Cur.adv (J := J) hRd h
  have hw := h.isW (c := c) (J := J) hRd x hx
  refine ⟨A', ?_, hC, f⟩
  rw [fX2_takeWord, rdV hRd, hw, k_C, q_I, if_neg (by decide), fX2_takeWord_17, rdI3 hRd, h.e.1, if_pos ii_0, rdV hRd, e, k_C, q_V]
end CUR
