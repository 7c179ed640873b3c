/-! CHANGES: quoin, open, lock -/
section CHS3
variable {M M' : AI} {g o : Int → Int} {r : Int}
theorem gQ_in (g : Int → Int) (r : Int) (hr : 0 ≤ r) (h2 : cel g r 2 = -1) (h3 : cel g r 3 = 0) : gu (gpu g r 2 0) 0 (g 0 - 1) = gQ g r 0 := by
  unfold gQ
  rw [if_neg (by omega), if_pos h2]
  funext z
  unfold gpu gu
  unfold cel at h3
  by_cases a : z = 16 + 512 * r + 3
  · have b : ¬ z = 16 + 512 * r + 2 := by omega
    have d : ¬ z = 0 := by omega
    simp only [if_pos a, if_neg b, if_neg d]
    rw [a]
    exact h3
  · by_cases b : z = 16 + 512 * r + 2
    · have d : ¬ z = 0 := by omega
      simp only [if_neg a, if_pos b, if_neg d]
    · by_cases d : z = 0
      · simp only [if_neg a, if_neg b, if_pos d]
      · simp only [if_neg a, if_neg b, if_neg d]
theorem gQ_op (g : Int → Int) (r o : Int) (h2 : cel g r 2 ≠ -1) (ho : o ≠ -1) : gpu (gpu g r 2 o) r 3 0 = gQ g r o := by
  unfold gQ
  rw [if_neg ho, if_neg h2]
  have e : gu g 0 (g 0 - 0) = g := by
    funext z
    unfold gu
    split
    case isTrue q => rw [q]; omega
    case isFalse q => rfl
  rw [e]
theorem stM_at (e37 : M' 0 37 = M 0 37) (g : Int → Int) : stM M' g = stM M g := by
  unfold stM
  rw [e37]
theorem chL_at (e : ∀ z, 2 ≤ z → z ≤ 9 → M' 0 z = M 0 z) (e37 : M' 0 37 = M 0 37) (e2 : M' 2 = M 2) (g o : Int → Int) (r : Int) : chL M' g o r = chL M g o r := by
  unfold chL needM
  rw [stM_at e37, gapM_at (e 2 (by omega) (by omega)) (e 4 (by omega) (by omega)) e2, e2, e 4 (by omega) (by omega), e 5 (by omega) (by omega), e 9 (by omega) (by omega)]
theorem chS_at (e : ∀ z, 2 ≤ z → z ≤ 9 → M' 0 z = M 0 z) (e37 : M' 0 37 = M 0 37) (e2 : M' 2 = M 2) (g o : Int → Int) (r : Int) : chS M' g o r = chS M g o r := by
  unfold chS needM
  rw [chL_at e e37 e2, gapM_at (e 2 (by omega) (by omega)) (e 4 (by omega) (by omega)) e2, e 4 (by omega) (by omega)]
theorem pcN_5 (g : Int → Int) (r d : Int) (hr : 0 ≤ r) (hg : RG g r) (hd : 0 ≤ d ∧ d < 10) : ∀ n : Nat, cel g r 1 + n ≤ 500 → pcN g r d n 5 = g 5
  | 0, _ => rfl
  | n + 1, h => by
    have h1 := (pcN_1 g r d hr hg hd n (by omega)).2.2.1
    show gPut (pcN g r d n) r d 5 = _
    rw [lo_gPut _ _ _ _ ⟨⟨hr, by omega⟩, h1.1⟩, if_neg (by omega)]
    exact pcN_5 g r d hr hg hd n (by omega)
theorem plN_5 (g : Int → Int) (r : Int) (o c : Int → Int) (hr : 0 ≤ r) (hg : RG g r) : ∀ p : Nat, (∀ q : Int, 0 ≤ q → q < p → (0 ≤ o q ∧ o q < 10) ∧ 0 ≤ c q) → (∀ q : Int, 0 ≤ q → q ≤ p → cel g r 1 + sm c q ≤ 500) → plN g r o c p 5 = g 5
  | 0, _, _ => rfl
  | p + 1, h1, h2 => by
    have ih := plN_5 g r o c hr hg p (fun q a b => h1 q a (by omega)) (fun q a b => h2 q a (by omega))
    obtain ⟨k1, k2⟩ := plN_1 g r o c hr hg p (fun q a b => h1 q a (by omega)) (fun q a b => h2 q a (by omega))
    have h3 := h1 p (by omega) (by omega)
    have h4 := h2 (p + 1) (by omega) (by omega)
    rw [sm_s _ _ (by omega)] at h4
    show pcN (plN g r o c p) r (o p) (c p).toNat 5 = _
    rw [pcN_5 _ _ _ hr k2 h3.1 _ (by omega)]
    exact ih
theorem gLock_5 (g : Int → Int) (r : Int) (o c : Int → Int) (n op : Int) (hr : 0 ≤ r) (hg : RG g r) (hn : 0 ≤ n) (hop : -1 ≤ op ∧ op ≤ 20) (h1 : ∀ q : Int, 0 ≤ q → q < n → (0 ≤ o q ∧ o q < 10) ∧ 0 ≤ c q) (h2 : ∀ q : Int, 0 ≤ q → q ≤ n → cel g r 1 + sm c q ≤ 500) : gLock g r o c n op 5 = g 5 := by
  have c1 : cel (gQ g r op) r 1 = cel g r 1 := by rw [cel_gQ _ _ _ _ _ (by omega), if_neg (by omega), if_neg (by omega)]
  unfold gLock
  rw [gpu_lo _ _ _ _ _ (by omega), plN_5 _ _ _ _ hr (RG.q ⟨hr, hr⟩ hop hg) _ (fun q a b => h1 q a (by omega)) (fun q a b => by rw [c1]; exact h2 q a (by omega)), lo_gQ _ _ _ _ (by omega), if_neg (by omega)]
end CHS3
section CHG3
variable {C0 N0 n : Nat} {K : Nat × Nat} {c : CC} {A : AI} {J : JI} {M : AI} {g g' o : Int → Int} {pl sp tv cap : Nat} {f B : Int}
end CHG3
