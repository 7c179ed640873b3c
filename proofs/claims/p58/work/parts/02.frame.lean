/-! THE WORLD OF A RUN, IN PLAIN FUNCTIONS: every cell that the run made has a number; what it holds are functions of the number and the place. -/
abbrev AS : Type := (Nat → Nat → Int32) × (Nat → Nat → Int64) × (Nat → Nat → Option Nat) × (Nat → Nat × Nat) × Nat × Nat × Nat
abbrev ax_I (σ : AS) : Nat → Nat → Int32 := σ.1
abbrev ax_J (σ : AS) : Nat → Nat → Int64 := σ.2.1
abbrev ax_P (σ : AS) : Nat → Nat → Option Nat := σ.2.2.1
abbrev ax_H (σ : AS) : Nat → Nat × Nat := σ.2.2.2.1
abbrev ax_z (σ : AS) : Nat := σ.2.2.2.2.1
abbrev ax_nc (σ : AS) : Nat := σ.2.2.2.2.2.1
abbrev ax_ns (σ : AS) : Nat := σ.2.2.2.2.2.2
abbrev AR : Type := (Option Value ⊕ String) × AS
def ax_up2 {α : Type} (f : Nat → Nat → α) (k j : Nat) (v : α) : Nat → Nat → α := fun a b => if a = k ∧ b = j then v else f a b
def ax_setI (σ : AS) (k j : Nat) (v : Int32) : AS := (ax_up2 σ.1 k j v, σ.2)
def ax_setJ (σ : AS) (k j : Nat) (v : Int64) : AS := (σ.1, ax_up2 σ.2.1 k j v, σ.2.2)
def ax_setP (σ : AS) (k j : Nat) (v : Option Nat) : AS := (σ.1, σ.2.1, ax_up2 σ.2.2.1 k j v, σ.2.2.2)
/-- a new cell, all of it 0 -/
def ax_new (σ : AS) (t n : Nat) : AS :=
  (fun a b => if a = σ.2.2.2.2.1 then 0 else σ.1 a b, fun a b => if a = σ.2.2.2.2.1 then 0 else σ.2.1 a b, fun a b => if a = σ.2.2.2.2.1 then none else σ.2.2.1 a b, fun a => if a = σ.2.2.2.2.1 then (t, n) else σ.2.2.2.1 a, σ.2.2.2.2.1 + 1, σ.2.2.2.2.2.1 + 1, σ.2.2.2.2.2.2 + n)
/-- room that is used up without a cell of ours -/
def ax_use (σ : AS) (c n : Nat) : AS := (σ.1, σ.2.1, σ.2.2.1, σ.2.2.2.1, σ.2.2.2.2.1, σ.2.2.2.2.2.1 + c, σ.2.2.2.2.2.2 + n)
theorem ax_up2_s {α : Type} (f : Nat → Nat → α) (k j : Nat) (v : α) : ax_up2 f k j v k j = v := if_pos ⟨rfl, rfl⟩
theorem ax_up2_n {α : Type} (f : Nat → Nat → α) {k j a b : Nat} (v : α) (h : ¬ (a = k ∧ b = j)) : ax_up2 f k j v a b = f a b := if_neg h
theorem ax_up2_a {α : Type} (f : Nat → Nat → α) {k j a b : Nat} (v : α) (h : a ≠ k) : ax_up2 f k j v a b = f a b := if_neg (fun q => h q.1)
/-! the kinds of cells: below 100 the objects of the class of that place in vwCl; 100 int, 101 boolean, 102 long, 103 byte, 104 double, 105 char; 110 rows of ints, 111 of Row, 112 of State -/
def ax_tags (c : Nat) : List Nat := match c with
  | 0 => [2, 0, 0, 0]
  | 1 => [2, 0, 0, 0]
  | 4 => [2, 0, 0]
  | 5 => [0, 0, 0, 0, 0, 0, 0, 0, 2, 2, 2]
  | 6 => [2, 2, 0, 0, 0, 0, 0, 0, 0]
  | 7 => [2, 0, 0, 2, 0, 0, 2, 0, 0, 0]
  | 8 => [2, 2, 2, 2, 2, 0, 0, 0]
  | 9 => [2, 2, 0, 0, 0, 0, 0, 0]
  | 10 => [2, 2, 2, 2, 2, 2, 2, 2, 2, 2, 0]
  | 11 => [2, 0]
  | 12 => [2, 0, 0, 0]
  | 13 => [2, 2, 2, 2, 2, 2, 2, 2, 2, 2, 2, 2, 2, 2, 0, 0]
  | _ => []
def ax_flds (ad : Nat → Nat) (σ : AS) (k : Nat) : List Nat → Nat → List Value
  | [], _ => []
  | t :: ts, j => (if t = 0 then Value.int (ax_I σ k j) else if t = 1 then Value.long (ax_J σ k j) else va_rf ((ax_P σ k j).map ad)) :: ax_flds ad σ k ts (j + 1)
def ax_arr (dA : Nat → ClassId) (ad : Nat → Nat) (σ : AS) (k t n : Nat) : va_E :=
  if t = 102 then .inl (dA 102, n, .inr (.inl (ax_J σ k)))
  else if t = 104 then .inl (dA 104, n, .inr (.inr (.inr (.inl (fun j => (ax_J σ k j).toUInt64)))))
  else if t < 110 then .inl (dA t, n, .inl (ax_I σ k))
  else .inl (dA t, n, .inr (.inr (.inr (.inr (fun j => (ax_P σ k j).map ad)))))
def ax_cell (dA : Nat → ClassId) (ad : Nat → Nat) (σ : AS) (k : Nat) : va_E :=
  if (ax_H σ k).1 < 100 then .inr ((ax_H σ k).1, ax_flds ad σ k (ax_tags (ax_H σ k).1) 0) else ax_arr dA ad σ k (ax_H σ k).1 (ax_H σ k).2
def ax_ws (dA : Nat → ClassId) (ad : Nat → Nat) (σ : AS) : va_W := (List.range (ax_z σ)).map (fun k => (ad k, ax_cell dA ad σ k))
def ax_cv (ad : Nat → Nat) : Value → Value
  | .ref k => .ref (ad k)
  | v => v
theorem ax_ws_get {dA : Nat → ClassId} {ad : Nat → Nat} {σ : AS} {k : Nat} (h : k < ax_z σ) : (ax_ws dA ad σ)[k]? = some (ad k, ax_cell dA ad σ k) := by
  unfold ax_ws
  rw [List.getElem?_map, List.getElem?_range h]
  rfl
theorem ax_ws_set {dA : Nat → ClassId} {ad : Nat → Nat} {σ τ : AS} {k : Nat} (hz : ax_z τ = ax_z σ) (h : ∀ a, a ≠ k → ax_cell dA ad τ a = ax_cell dA ad σ a) : (ax_ws dA ad σ).set k (ad k, ax_cell dA ad τ k) = ax_ws dA ad τ := by
  apply List.ext_getElem?
  intro i
  rw [List.getElem?_set]
  unfold ax_ws
  simp only [List.length_map, List.length_range, List.getElem?_map]
  rw [hz]
  by_cases hi : k = i
  · subst hi
    rw [if_pos rfl]
    by_cases hk : k < ax_z σ
    · rw [if_pos hk, List.getElem?_range hk]; rfl
    · rw [if_neg hk, List.getElem?_eq_none (by simp; omega)]; rfl
  · rw [if_neg hi]
    by_cases hk : i < ax_z σ
    · rw [List.getElem?_range hk]
      simp only [Option.map_some]
      rw [h i (Ne.symm hi)]
    · rw [List.getElem?_eq_none (by simp; omega)]; rfl
theorem ax_flds_get {ad : Nat → Nat} {σ : AS} {k : Nat} : ∀ (ts : List Nat) (j0 j t : Nat), ts[j]? = some t → (ax_flds ad σ k ts j0)[j]? = some (if t = 0 then Value.int (ax_I σ k (j0 + j)) else if t = 1 then Value.long (ax_J σ k (j0 + j)) else va_rf ((ax_P σ k (j0 + j)).map ad))
  | [], _, _, _, h => by simp at h
  | u :: ts, j0, 0, t, h => by
    cases h
    rfl
  | u :: ts, j0, j + 1, t, h => by
    have ih := ax_flds_get (ad := ad) (σ := σ) (k := k) ts (j0 + 1) j t h
    rw [show j0 + 1 + j = j0 + (j + 1) by omega] at ih
    exact ih
theorem ax_flds_len {ad : Nat → Nat} {σ : AS} {k : Nat} : ∀ (ts : List Nat) (j0 : Nat), (ax_flds ad σ k ts j0).length = ts.length
  | [], _ => rfl
  | _ :: ts, j0 => by
    show (ax_flds ad σ k ts (j0 + 1)).length + 1 = ts.length + 1
    rw [ax_flds_len ts (j0 + 1)]
/-- fields are the same where what they are read from is -/
theorem ax_flds_cong {ad ad' : Nat → Nat} {σ τ : AS} {k : Nat} : ∀ (ts : List Nat) (j0 : Nat), (∀ j, ax_I τ k j = ax_I σ k j) → (∀ j, ax_J τ k j = ax_J σ k j) → (∀ j, (ax_P τ k j).map ad' = (ax_P σ k j).map ad) → ax_flds ad' τ k ts j0 = ax_flds ad σ k ts j0
  | [], _, _, _, _ => rfl
  | _ :: ts, j0, h1, h2, h3 => by
    show _ :: _ = _ :: _
    rw [ax_flds_cong ts (j0 + 1) h1 h2 h3, h1, h2, h3]
theorem ax_flds_upd {ad : Nat → Nat} {σ τ : AS} {k : Nat} {v : Value} : ∀ (ts : List Nat) (j0 j t : Nat), ts[j]? = some t → (if t = 0 then Value.int (ax_I τ k (j0 + j)) else if t = 1 then Value.long (ax_J τ k (j0 + j)) else va_rf ((ax_P τ k (j0 + j)).map ad)) = v → (∀ i, i ≠ j0 + j → ax_I τ k i = ax_I σ k i ∧ ax_J τ k i = ax_J σ k i ∧ ax_P τ k i = ax_P σ k i) → (ax_flds ad σ k ts j0).set j v = ax_flds ad τ k ts j0
  | [], _, _, _, h, _, _ => by simp at h
  | u :: ts, j0, 0, t, h, hv, ho => by
    cases h
    have key : ∀ (ts : List Nat) (j1 : Nat), j0 < j1 → ax_flds ad σ k ts j1 = ax_flds ad τ k ts j1 := by
      intro ts
      induction ts with
      | nil => intro _ _; rfl
      | cons w ws ih =>
        intro j1 hj
        obtain ⟨a1, a2, a3⟩ := ho j1 (by omega)
        show _ :: _ = _ :: _
        rw [ih (j1 + 1) (by omega), a1, a2, a3]
    show v :: _ = _ :: _
    rw [key ts (j0 + 1) (by omega), ← hv]
    rfl
  | u :: ts, j0, j + 1, t, h, hv, ho => by
    obtain ⟨a1, a2, a3⟩ := ho j0 (by omega)
    show _ :: (ax_flds ad σ k ts (j0 + 1)).set j v = _ :: _
    rw [ax_flds_upd ts (j0 + 1) j t h (by rw [show j0 + 1 + j = j0 + (j + 1) by omega]; exact hv) (fun i hi => ho i (by omega)), a1, a2, a3]
theorem ax_cell_cong {dA : Nat → ClassId} {ad ad' : Nat → Nat} {σ τ : AS} {k : Nat} (h0 : ax_H τ k = ax_H σ k) (h1 : ∀ j, ax_I τ k j = ax_I σ k j) (h2 : ∀ j, ax_J τ k j = ax_J σ k j) (h3 : ∀ j, (ax_P τ k j).map ad' = (ax_P σ k j).map ad) : ax_cell dA ad' τ k = ax_cell dA ad σ k := by
  have e1 : ax_I τ k = ax_I σ k := funext h1
  have e2 : ax_J τ k = ax_J σ k := funext h2
  have e3 : (fun j => (ax_P τ k j).map ad') = (fun j => (ax_P σ k j).map ad) := funext h3
  unfold ax_cell ax_arr
  rw [h0, ax_flds_cong _ _ h1 h2 h3, e1, e2, e3]
