/-! THE START: the model -/
def PW (P : Nat → Nat → Option Nat) (z : Nat) (K : Nat × Nat) (A : AI) : AS := (IW A, fun _ _ => 0, P, fun a => if a < z then nH a else (0, 0), z, K.1, K.2)
section STM
variable {P : Nat → Nat → Option Nat} {z t m j q : Nat} {K : Nat × Nat} {A : AI}
theorem pw_new (hn : nH z = (t, m)) (hA : ∀ x, A z x = 0) (hP : ∀ j, P z j = none) : ax_new (PW P z K A) t m = PW P (z + 1) (K.1 + 1, K.2 + m) A := by
  have e1 : (fun (a b : Nat) => if a = z then (0 : Int32) else IW A a b) = IW A := by
    funext a b
    by_cases q : a = z
    · rw [if_pos q, q]
      show (0 : Int32) = ii (A z (b : Int))
      rw [hA]
      rfl
    · rw [if_neg q]
  have e2 : (fun (a _ : Nat) => if a = z then (0 : Int64) else 0) = fun _ _ => 0 := by
    funext a b
    rw [ite_self]
  have e3 : (fun (a b : Nat) => if a = z then none else P a b) = P := by
    funext a b
    by_cases q : a = z
    · rw [if_pos q, q, hP]
    · rw [if_neg q]
  have e4 : (fun a : Nat => if a = z then (t, m) else if a < z then nH a else (0, 0)) = fun a => if a < z + 1 then nH a else (0, 0) := by
    funext a
    by_cases q : a = z
    · rw [if_pos q, if_pos (by omega), q, hn]
    · rw [if_neg q]
      by_cases y : a < z
      · rw [if_pos y, if_pos (by omega)]
      · rw [if_neg y, if_neg (by omega)]
  show ((fun (a b : Nat) => if a = z then (0 : Int32) else IW A a b), (fun (a _ : Nat) => if a = z then (0 : Int64) else 0), (fun (a b : Nat) => if a = z then none else P a b), (fun a : Nat => if a = z then (t, m) else if a < z then nH a else (0, 0)), z + 1, K.1 + 1, K.2 + m) = _
  rw [e1, e2, e3, e4]
  rfl
theorem pw_nA {n : Int32} (hm : n.toNatClampNeg = m) (hn : ¬ n < 0) (hz : z < 1000000) (hm2 : m ≤ 100000) (h : nH z = (t, m)) (hA : ∀ x, A z x = 0) (hP : ∀ j, P z j = none) {k : Nat → AS → Option AR} : nA (PW P z K A) t n k = k z (PW P (z + 1) (K.1 + 1, K.2 + m) A) := by
  refine (if_pos ⟨hz, hn, by rw [hm]; exact hm2⟩).trans ?_
  rw [hm, pw_new h hA hP]
  rfl
theorem pw_sR (hz : 0 < z) {k : AS → Option AR} : sR (PW P z K A) 0 11 j q k = k (PW (ax_up2 P 0 j (some q)) z K A) :=
  (if_pos ⟨hz, by show (if 0 < z then nH 0 else (0, 0)).1 = 11; rw [if_pos hz]; rfl⟩).trans rfl
theorem pw_sI (j : Nat) (v : Int) (hz : 0 < z) (hj : 0 ≤ (j : Int) ∧ (j : Int) < 100) {k : AS → Option AR} : sI (PW P z K A) 0 11 j (ii v) k = k (PW P z K (up A 0 (j : Int) v)) := by
  refine (if_pos ⟨hz, by show (if 0 < z then nH 0 else (0, 0)).1 = 11; rw [if_pos hz]; rfl⟩).trans ?_
  have e : ax_setI (PW P z K A) 0 j (ii v) = PW P z K (up A 0 (j : Int) v) := by
    show (ax_up2 (IW A) 0 j (ii v), _) = _
    rw [IW_up]
    rfl
  rw [e]
end STM
def p17 : Nat → Nat → Option Nat := ax_up2 (ax_up2 (ax_up2 (ax_up2 (ax_up2 (ax_up2 (ax_up2 (ax_up2 (ax_up2 (ax_up2 (ax_up2 (ax_up2 (ax_up2 (ax_up2 (ax_up2 (ax_up2 (fun _ _ => none) 0 10 (some 1)) 0 11 (some 2)) 0 12 (some 3)) 0 13 (some 4)) 0 14 (some 5)) 0 16 (some 6)) 0 17 (some 7)) 0 28 (some 8)) 0 29 (some 9)) 0 30 (some 10)) 0 31 (some 11)) 0 33 (some 12)) 0 34 (some 13)) 0 35 (some 14)) 0 38 (some 15)) 0 39 (some 16)
theorem p17_e : p17 = nP := by
  funext a j
  unfold p17
  by_cases h : a = 0
  · subst h
    by_cases y39 : j = 39
    · subst y39; rfl
    by_cases y38 : j = 38
    · subst y38; rfl
    by_cases y35 : j = 35
    · subst y35; rfl
    by_cases y34 : j = 34
    · subst y34; rfl
    by_cases y33 : j = 33
    · subst y33; rfl
    by_cases y31 : j = 31
    · subst y31; rfl
    by_cases y30 : j = 30
    · subst y30; rfl
    by_cases y29 : j = 29
    · subst y29; rfl
    by_cases y28 : j = 28
    · subst y28; rfl
    by_cases y17 : j = 17
    · subst y17; rfl
    by_cases y16 : j = 16
    · subst y16; rfl
    by_cases y14 : j = 14
    · subst y14; rfl
    by_cases y13 : j = 13
    · subst y13; rfl
    by_cases y12 : j = 12
    · subst y12; rfl
    by_cases y11 : j = 11
    · subst y11; rfl
    by_cases y10 : j = 10
    · subst y10; rfl
    rw [ax_up2_n _ _ (fun q => y39 q.2), ax_up2_n _ _ (fun q => y38 q.2), ax_up2_n _ _ (fun q => y35 q.2), ax_up2_n _ _ (fun q => y34 q.2), ax_up2_n _ _ (fun q => y33 q.2), ax_up2_n _ _ (fun q => y31 q.2), ax_up2_n _ _ (fun q => y30 q.2), ax_up2_n _ _ (fun q => y29 q.2), ax_up2_n _ _ (fun q => y28 q.2), ax_up2_n _ _ (fun q => y17 q.2), ax_up2_n _ _ (fun q => y16 q.2), ax_up2_n _ _ (fun q => y14 q.2), ax_up2_n _ _ (fun q => y13 q.2), ax_up2_n _ _ (fun q => y12 q.2), ax_up2_n _ _ (fun q => y11 q.2), ax_up2_n _ _ (fun q => y10 q.2)]
    unfold nP
    rw [if_pos rfl]
    split <;> first | rfl | (exact absurd rfl (by assumption))
  · rw [ax_up2_a _ _ h, ax_up2_a _ _ h, ax_up2_a _ _ h, ax_up2_a _ _ h, ax_up2_a _ _ h, ax_up2_a _ _ h, ax_up2_a _ _ h, ax_up2_a _ _ h, ax_up2_a _ _ h, ax_up2_a _ _ h, ax_up2_a _ _ h, ax_up2_a _ _ h, ax_up2_a _ _ h, ax_up2_a _ _ h, ax_up2_a _ _ h, ax_up2_a _ _ h]
    unfold nP
    rw [if_neg h]
theorem h17_e : (fun a : Nat => if a < 17 then nH a else (0, 0)) = nH := by
  funext a
  by_cases h : a < 17
  · rw [if_pos h]
  · rw [if_neg h]
    unfold nH
    split <;> first | rfl | omega
theorem m_start (K : Nat × Nat) : ∃ K' : Nat × Nat, (K'.1 = K.1 + 16 ∧ K'.2 = K.2 + 63038) ∧ fX7_init 0 (PW (fun _ _ => none) 1 K (fun _ _ => 0)) = some (Sum.inl none, NW K' (up (up (fun _ _ => 0) 0 20 (-1)) 0 37 (-1))) := by
  refine ⟨(K.1 + 1 + 1 + 1 + 1 + 1 + 1 + 1 + 1 + 1 + 1 + 1 + 1 + 1 + 1 + 1 + 1, K.2 + 10 + 10 + 4112 + 4112 + 41120 + 2 + 500 + 4112 + 8 + 10 + 10 + 10 + 5511 + 10 + 501 + 3000), ⟨by show K.1 + 1 + 1 + 1 + 1 + 1 + 1 + 1 + 1 + 1 + 1 + 1 + 1 + 1 + 1 + 1 + 1 = K.1 + 16; omega, by show K.2 + 10 + 10 + 4112 + 4112 + 41120 + 2 + 500 + 4112 + 8 + 10 + 10 + 10 + 5511 + 10 + 501 + 3000 = K.2 + 63038; omega⟩, ?_⟩
  have e1 : (-1 : Int32) = ii (-1) := by decide
  rw [fX7_init, e1, pw_nA (m := 10) rfl (by decide) (by decide) (by decide) rfl (fun _ => rfl) (fun _ => rfl), pw_sR (by decide), pw_nA (m := 10) rfl (by decide) (by decide) (by decide) rfl (fun _ => rfl) (fun _ => rfl), pw_sR (by decide), pw_nA (m := 4112) rfl (by decide) (by decide) (by decide) rfl (fun _ => rfl) (fun _ => rfl), pw_sR (by decide), pw_nA (m := 4112) rfl (by decide) (by decide) (by decide) rfl (fun _ => rfl) (fun _ => rfl), pw_sR (by decide), pw_nA (m := 41120) rfl (by decide) (by decide) (by decide) rfl (fun _ => rfl) (fun _ => rfl), pw_sR (by decide), pw_nA (m := 2) rfl (by decide) (by decide) (by decide) rfl (fun _ => rfl) (fun _ => rfl), pw_sR (by decide), pw_nA (m := 500) rfl (by decide) (by decide) (by decide) rfl (fun _ => rfl) (fun _ => rfl), pw_sR (by decide), pw_sI 20 (-1) (by decide) (by decide), pw_nA (m := 4112) rfl (by decide) (by decide) (by decide) rfl (fun _ => rfl) (fun _ => rfl), pw_sR (by decide), pw_nA (m := 8) rfl (by decide) (by decide) (by decide) rfl (fun _ => rfl) (fun _ => rfl), pw_sR (by decide), pw_nA (m := 10) rfl (by decide) (by decide) (by decide) rfl (fun _ => rfl) (fun _ => rfl), pw_sR (by decide), pw_nA (m := 10) rfl (by decide) (by decide) (by decide) rfl (fun _ => rfl) (fun _ => rfl), pw_sR (by decide), pw_nA (m := 10) rfl (by decide) (by decide) (by decide) rfl (fun _ => rfl) (fun _ => rfl), pw_sR (by decide), pw_nA (m := 5511) rfl (by decide) (by decide) (by decide) rfl (fun _ => rfl) (fun _ => rfl), pw_sR (by decide), pw_nA (m := 10) rfl (by decide) (by decide) (by decide) rfl (fun _ => rfl) (fun _ => rfl), pw_sR (by decide), pw_sI 37 (-1) (by decide) (by decide), pw_nA (m := 501) rfl (by decide) (by decide) (by decide) rfl (fun _ => rfl) (fun _ => rfl), pw_sR (by decide), pw_nA (m := 3000) rfl (by decide) (by decide) (by decide) rfl (fun _ => rfl) (fun _ => rfl), pw_sR (by decide)]
  show some (Sum.inl none, (IW _, (fun _ _ => (0 : Int64)), p17, (fun a : Nat => if a < 17 then nH a else (0, 0)), 17, _, _)) = _
  rw [p17_e, h17_e]
  rfl
