/-! THE ROWS OF THE HEAP, over the world -/
/-- a field, by its number in a class's pool: the place ci of its class, its place j there, how it is kept (0 int, 1 long, 2 reference), its type, whether it is final -/
def ax_FL (own : String) (index ci j t : Nat) (ty : FieldType) (fin : Bool) : Prop :=
  ∃ (C0 : String) (T : u_T) (N : Nat) (ty0 : Nat → FieldType), vwCl[ci]? = some (C0, T, N) ∧ j < N ∧ ci < 100 ∧ (ax_tags ci).length = N ∧ (ax_tags ci)[j]? = some t ∧ (∀ w ∈ u_ws C0 T N, w ∈ ax_ALL) ∧ Cond.fieldLink own index (T j).1 (T j).2.1 (T j).2.2.1 ∈ ax_ALL ∧ (∀ k, k < N → parseFieldDescriptor (T k).2.2.1 = some (ty0 k)) ∧ (∀ a, a < N → ∀ b, b < N → a ≠ b → (T a).2.1 ≠ (T b).2.1) ∧ (T j).2.2.2 = fin ∧ (fin = true → (T j).1 = own) ∧ ty0 j = ty
/-- .. to be read alone -/
def ax_FR (own : String) (index ci j t : Nat) : Prop :=
  ∃ (C0 : String) (T : u_T) (N : Nat), vwCl[ci]? = some (C0, T, N) ∧ j < N ∧ ci < 100 ∧ (ax_tags ci)[j]? = some t ∧ (∀ w ∈ u_ws C0 T N, w ∈ ax_ALL) ∧ Cond.fieldLink own index (T j).1 (T j).2.1 (T j).2.2.1 ∈ ax_ALL
def gI (σ : AS) (a ci j : Nat) (g : Int32 → Option AR) : Option AR := if a < ax_z σ ∧ (ax_H σ a).1 = ci then g (ax_I σ a j) else none
def gR (σ : AS) (a ci j : Nat) (g : Nat → Option AR) : Option AR := if a < ax_z σ ∧ (ax_H σ a).1 = ci then (match ax_P σ a j with | some q => g q | none => none) else none
def sI (σ : AS) (a ci j : Nat) (v : Int32) (g : AS → Option AR) : Option AR := if a < ax_z σ ∧ (ax_H σ a).1 = ci then g (ax_setI σ a j v) else none
def sZ (σ : AS) (a ci j : Nat) (v : Int32) (g : AS → Option AR) : Option AR := if (a < ax_z σ ∧ (ax_H σ a).1 = ci) ∧ (v = 0 ∨ v = 1) then g (ax_setI σ a j v) else none
def sB (σ : AS) (a ci j : Nat) (v : Int32) (g : AS → Option AR) : Option AR := if (a < ax_z σ ∧ (ax_H σ a).1 = ci) ∧ v.toInt8.toInt32 = v then g (ax_setI σ a j v) else none
def sR (σ : AS) (a ci j q : Nat) (g : AS → Option AR) : Option AR := if a < ax_z σ ∧ (ax_H σ a).1 = ci then g (ax_setP σ a j (some q)) else none
/-- an index -/
abbrev ax_ib (i : Int32) (n : Nat) : Prop := ¬ (i < 0 ∨ n ≤ i.toNatClampNeg)
def aI (σ : AS) (a t : Nat) (i : Int32) (g : Int32 → Option AR) : Option AR := if a < ax_z σ ∧ (ax_H σ a).1 = t ∧ ax_ib i (ax_H σ a).2 then g (ax_I σ a i.toNatClampNeg) else none
def aJ (σ : AS) (a : Nat) (i : Int32) (g : Int64 → Option AR) : Option AR := if a < ax_z σ ∧ (ax_H σ a).1 = 102 ∧ ax_ib i (ax_H σ a).2 then g (ax_J σ a i.toNatClampNeg) else none
def aR (σ : AS) (a t : Nat) (i : Int32) (g : Nat → Option AR) : Option AR := if a < ax_z σ ∧ (ax_H σ a).1 = t ∧ ax_ib i (ax_H σ a).2 then (match ax_P σ a i.toNatClampNeg with | some q => g q | none => none) else none
def uI (σ : AS) (a : Nat) (i x : Int32) (g : AS → Option AR) : Option AR := if a < ax_z σ ∧ (ax_H σ a).1 = 100 ∧ ax_ib i (ax_H σ a).2 then g (ax_setI σ a i.toNatClampNeg x) else none
def uN (t : Nat) (ty : FieldType) (σ : AS) (a : Nat) (i x : Int32) (g : AS → Option AR) : Option AR := if a < ax_z σ ∧ (ax_H σ a).1 = t ∧ ax_ib i (ax_H σ a).2 then g (ax_setI σ a i.toNatClampNeg (vp_nar ty x)) else none
def uJ (σ : AS) (a : Nat) (i : Int32) (x : Int64) (g : AS → Option AR) : Option AR := if a < ax_z σ ∧ (ax_H σ a).1 = 102 ∧ ax_ib i (ax_H σ a).2 then g (ax_setJ σ a i.toNatClampNeg x) else none
def uR (σ : AS) (a t ci : Nat) (i : Int32) (q : Nat) (g : AS → Option AR) : Option AR := if a < ax_z σ ∧ (ax_H σ a).1 = t ∧ ax_ib i (ax_H σ a).2 ∧ q < ax_z σ ∧ (ax_H σ q).1 = ci then g (ax_setP σ a i.toNatClampNeg (some q)) else none
def aL (σ : AS) (a t : Nat) (g : Int32 → Option AR) : Option AR := if a < ax_z σ ∧ (ax_H σ a).1 = t then g (Int32.ofNat (ax_H σ a).2) else none
theorem ax_cell_o {dA : Nat → ClassId} {ad : Nat → Nat} {σ : AS} {a ci : Nat} (h : (ax_H σ a).1 = ci) (hc : ci < 100) : ax_cell dA ad σ a = .inr (ci, ax_flds ad σ a (ax_tags ci) 0) := by
  unfold ax_cell
  rw [h, if_pos hc]
theorem ax_cell_a {dA : Nat → ClassId} {ad : Nat → Nat} {σ : AS} {a t : Nat} (h : (ax_H σ a).1 = t) (hc : ¬ t < 100) : ax_cell dA ad σ a = ax_arr dA ad σ a t (ax_H σ a).2 := by
  unfold ax_cell
  rw [h, if_neg hc]
theorem ax_arr_I {dA : Nat → ClassId} {ad : Nat → Nat} {σ : AS} {a t n : Nat} (h2 : t ≠ 102) (h4 : t ≠ 104) (h : t < 110) : ax_arr dA ad σ a t n = .inl (dA t, n, .inl (ax_I σ a)) := by
  unfold ax_arr
  rw [if_neg h2, if_neg h4, if_pos h]
theorem ax_arr_J {dA : Nat → ClassId} {ad : Nat → Nat} {σ : AS} {a n : Nat} : ax_arr dA ad σ a 102 n = .inl (dA 102, n, .inr (.inl (ax_J σ a))) := rfl
theorem ax_arr_R {dA : Nat → ClassId} {ad : Nat → Nat} {σ : AS} {a t n : Nat} (h : 110 ≤ t) : ax_arr dA ad σ a t n = .inl (dA t, n, .inr (.inr (.inr (.inr (fun j => (ax_P σ a j).map ad))))) := by
  unfold ax_arr
  rw [if_neg (by omega), if_neg (by omega), if_neg (by omega)]
/-- the world behind a store in a field -/
theorem ax_set_fld {dA : Nat → ClassId} {ad : Nat → Nat} {σ τ : AS} {a ci j t : Nat} {v : Value} (h : (ax_H σ a).1 = ci) (hc : ci < 100) (hH : ax_H τ = ax_H σ) (hz : ax_z τ = ax_z σ) (ht : (ax_tags ci)[j]? = some t) (hv : (if t = 0 then Value.int (ax_I τ a j) else if t = 1 then Value.long (ax_J τ a j) else va_rf ((ax_P τ a j).map ad)) = v)
    (ho : ∀ b i, ¬ (b = a ∧ i = j) → ax_I τ b i = ax_I σ b i ∧ ax_J τ b i = ax_J σ b i ∧ ax_P τ b i = ax_P σ b i) : (ax_ws dA ad σ).set a (ad a, .inr (ci, (ax_flds ad σ a (ax_tags ci) 0).set j v)) = ax_ws dA ad τ := by
  rw [ax_flds_upd (τ := τ) (v := v) (ax_tags ci) 0 j t ht (by rw [Nat.zero_add]; exact hv) (fun i hi => ho a i (fun q => hi (by rw [q.2, Nat.zero_add]))), ← ax_cell_o (dA := dA) (σ := τ) (by rw [hH]; exact h) hc]
  exact ax_ws_set hz fun b hb => ax_cell_cong (by rw [hH]) (fun i => (ho b i (fun q => hb q.1)).1) (fun i => (ho b i (fun q => hb q.1)).2.1) (fun i => by rw [(ho b i (fun q => hb q.1)).2.2])
theorem ax_set_arr {dA : Nat → ClassId} {ad : Nat → Nat} {σ τ : AS} {a t : Nat} (h : (ax_H σ a).1 = t) (hc : ¬ t < 100) (hH : ax_H τ = ax_H σ) (hz : ax_z τ = ax_z σ)
    (ho : ∀ b i, b ≠ a → ax_I τ b i = ax_I σ b i ∧ ax_J τ b i = ax_J σ b i ∧ ax_P τ b i = ax_P σ b i) {e : va_E} (he : ax_arr dA ad τ a t (ax_H σ a).2 = e) : (ax_ws dA ad σ).set a (ad a, e) = ax_ws dA ad τ := by
  rw [← he, ← hH, ← ax_cell_a (σ := τ) (by rw [hH]; exact h) hc]
  exact ax_ws_set hz fun b hb => ax_cell_cong (by rw [hH]) (fun i => (ho b i hb).1) (fun i => (ho b i hb).2.1) (fun i => by rw [(ho b i hb).2.2])
theorem ax_oI (σ : AS) (a j : Nat) (v : Int32) : ∀ b i, ¬ (b = a ∧ i = j) → ax_I (ax_setI σ a j v) b i = ax_I σ b i ∧ ax_J (ax_setI σ a j v) b i = ax_J σ b i ∧ ax_P (ax_setI σ a j v) b i = ax_P σ b i := fun b i h => ⟨if_neg h, rfl, rfl⟩
theorem ax_oJ (σ : AS) (a j : Nat) (v : Int64) : ∀ b i, ¬ (b = a ∧ i = j) → ax_I (ax_setJ σ a j v) b i = ax_I σ b i ∧ ax_J (ax_setJ σ a j v) b i = ax_J σ b i ∧ ax_P (ax_setJ σ a j v) b i = ax_P σ b i := fun b i h => ⟨rfl, if_neg h, rfl⟩
theorem ax_oP (σ : AS) (a j : Nat) (v : Option Nat) : ∀ b i, ¬ (b = a ∧ i = j) → ax_I (ax_setP σ a j v) b i = ax_I σ b i ∧ ax_J (ax_setP σ a j v) b i = ax_J σ b i ∧ ax_P (ax_setP σ a j v) b i = ax_P σ b i := fun b i h => ⟨rfl, rfl, if_neg h⟩
theorem ax_clP {σ : AS} {a j q : Nat} (h : ax_cl σ) (hq : ax_sv σ (.ref q)) : ax_cl (ax_setP σ a j (some q)) := by
  intro b i p hb hp
  have hp : ax_up2 σ.2.2.1 a j (some q) b i = some p := hp
  unfold ax_up2 at hp
  split at hp
  · cases hp
    exact hq
  · exact h b i p hb hp
theorem ax_updI (σ : AS) (a i : Nat) (x : Int32) : ax_I (ax_setI σ a i x) a = upd (ax_I σ a) i x := by
  funext z
  show ax_up2 σ.1 a i x a z = upd (σ.1 a) i x z
  simp [ax_up2, upd]
theorem ax_updJ (σ : AS) (a i : Nat) (x : Int64) : ax_J (ax_setJ σ a i x) a = vp_updL (ax_J σ a) i x := by
  funext z
  show ax_up2 σ.2.1 a i x a z = vp_updL (σ.2.1 a) i x z
  simp [ax_up2, vp_updL]
section OKH
variable {Γ : CX} {cc : ByteArray} {own : String} {ret : Option FieldType} {pc : Nat} {lv : List (Nat × Value)} {st : List Value} {σ : AS}
theorem cx_new {Γ : CX} : ∀ q, (cx_s Γ).heap.size ≤ q → cx_A Γ q := fun _ h => Or.inr h
theorem ok_getI (C : OKC Γ cc own ret) {index ci j a : Nat} (L : ax_FR own index ci j 0) (hdg : decode cc pc = .ok (.getfield index, 3)) {g : Int32 → Option AR} (k : ∀ v, OK Γ (pc + 3) lv (.int v :: st) (g v) σ) : OK Γ pc lv (.ref a :: st) (gI σ a ci j g) σ := by
  intro r hr
  unfold gI at hr
  split at hr
  case isFalse => cases hr
  case isTrue h =>
    obtain ⟨C0, T, N, l1, l2, l3, l5, l6, l7⟩ := L
    obtain ⟨m, w⟩ := k _ r hr
    refine ⟨m, fun ad H locs ls h1 h2 h3 h4 h5 h6 h7 h8 h9 h10 => ?_⟩
    have hg := ax_flds_get (ad := ad) (σ := σ) (k := a) (ax_tags ci) 0 j 0 l5
    rw [Nat.zero_add] at hg
    exact va_get C.1 C.2.1 C.2.2.2.1 l6 C.2.2.1 C.2.2.2.2.1 h5.1 a ((ax_ws_get h.1).trans (by rw [ax_cell_o h.2 l3])) l1 j l2 (C.2.2.2.1 _ l7) (fun _ q => q) hg hdg (w ad H locs ls h1 h2 h3 h4 h5 h6 h7 h8 h9 ⟨trivial, h10.2⟩)
theorem ok_getR (C : OKC Γ cc own ret) {index ci j a : Nat} (L : ax_FR own index ci j 2) (hdg : decode cc pc = .ok (.getfield index, 3)) {g : Nat → Option AR} (k : ∀ q, OK Γ (pc + 3) lv (.ref q :: st) (g q) σ) : OK Γ pc lv (.ref a :: st) (gR σ a ci j g) σ := by
  intro r hr
  unfold gR at hr
  split at hr
  case isFalse => cases hr
  case isTrue h =>
    split at hr
    case h_2 => cases hr
    case h_1 q hq =>
      obtain ⟨C0, T, N, l1, l2, l3, l5, l6, l7⟩ := L
      obtain ⟨m, w⟩ := k _ r hr
      refine ⟨m, fun ad H locs ls h1 h2 h3 h4 h5 h6 h7 h8 h9 h10 => ?_⟩
      have hg := ax_flds_get (ad := ad) (σ := σ) (k := a) (ax_tags ci) 0 j 2 l5
      rw [Nat.zero_add, hq] at hg
      exact va_get C.1 C.2.1 C.2.2.2.1 l6 C.2.2.1 C.2.2.2.2.1 h5.1 a ((ax_ws_get h.1).trans (by rw [ax_cell_o h.2 l3])) l1 j l2 (C.2.2.2.1 _ l7) (fun _ q => q) hg hdg (w ad H locs ls h1 h2 h3 h4 h5 h6 h7 h8 h9 ⟨h8 a j q h.1 hq, h10.2⟩)

theorem ok_putI (C : OKC Γ cc own ret) {index ci j a : Nat} {v : Int32} (L : ax_FL own index ci j 0 .int false) (hdg : decode cc pc = .ok (.putfield index, 3)) {g : AS → Option AR} (k : ∀ τ, τ = ax_setI σ a j v → OK Γ (pc + 3) lv st (g τ) τ) : OK Γ pc lv (.int v :: .ref a :: st) (sI σ a ci j v g) σ := by
  intro r hr
  unfold sI at hr
  split at hr
  case isFalse => cases hr
  case isTrue h =>
    obtain ⟨C0, T, N, ty0, l1, l2, l3, l4, l5, l6, l7, l8, l9, hfin, hdec, l12⟩ := L
    obtain ⟨m, w⟩ := k _ rfl r hr
    refine ⟨m, fun ad H locs ls h1 h2 h3 h4 h5 h6 h7 h8 h9 h10 => ?_⟩
    have hd := l8 j l2
    rw [l12] at hd
    refine va_put C.1 C.2.1 C.2.2.2.1 l6 ty0 l8 l9 C.2.2.1 C.2.2.2.2.1 h5.1 h5.2 h6 a ((ax_ws_get h.1).trans (by rw [ax_cell_o h.2 l3])) l1 j l2 (C.2.2.2.1 _ l7) (fun _ q => q) hfin hd rfl rfl (by rw [ax_flds_len, l4]; exact l2) hdg fun H1 locs1 hP hD hS => ?_
    rw [ax_set_fld (τ := ax_setI σ a j v) h.2 l3 rfl rfl l5 (by show Value.int (ax_up2 σ.1 a j v a j) = Value.int v; rw [ax_up2_s]) (ax_oI σ a j v)] at hP hD
    exact w ad H1 locs1 ls h1 h2 h3 h4 ⟨hP, hD⟩ hS h7 h8 (ax_lv_mono (σ := σ) (τ := ax_setI σ a j v) (Nat.le_refl (ax_z σ)) h9) (ax_st_mono (σ := σ) (τ := ax_setI σ a j v) (Nat.le_refl (ax_z σ)) h10.2.2)
theorem ok_putZ (C : OKC Γ cc own ret) {index ci j a : Nat} {v : Int32} (L : ax_FL own index ci j 0 .boolean false) (hdg : decode cc pc = .ok (.putfield index, 3)) {g : AS → Option AR} (k : ∀ τ, τ = ax_setI σ a j v → OK Γ (pc + 3) lv st (g τ) τ) : OK Γ pc lv (.int v :: .ref a :: st) (sZ σ a ci j v g) σ := by
  intro r hr
  unfold sZ at hr
  split at hr
  case isFalse => cases hr
  case isTrue h =>
    obtain ⟨C0, T, N, ty0, l1, l2, l3, l4, l5, l6, l7, l8, l9, hfin, hdec, l12⟩ := L
    obtain ⟨m, w⟩ := k _ rfl r hr
    refine ⟨m, fun ad H locs ls h1 h2 h3 h4 h5 h6 h7 h8 h9 h10 => ?_⟩
    have hd := l8 j l2
    rw [l12] at hd
    refine va_put C.1 C.2.1 C.2.2.2.1 l6 ty0 l8 l9 C.2.2.1 C.2.2.2.2.1 h5.1 h5.2 h6 a ((ax_ws_get h.1.1).trans (by rw [ax_cell_o h.1.2 l3])) l1 j l2 (C.2.2.2.1 _ l7) (fun _ q => q) hfin hd (by rcases h.2 with e | e <;> rw [e] <;> rfl) (by rcases h.2 with e | e <;> rw [e] <;> rfl) (by rw [ax_flds_len, l4]; exact l2) hdg fun H1 locs1 hP hD hS => ?_
    rw [ax_set_fld (τ := ax_setI σ a j v) h.1.2 l3 rfl rfl l5 (by show Value.int (ax_up2 σ.1 a j v a j) = Value.int v; rw [ax_up2_s]) (ax_oI σ a j v)] at hP hD
    exact w ad H1 locs1 ls h1 h2 h3 h4 ⟨hP, hD⟩ hS h7 h8 (ax_lv_mono (σ := σ) (τ := ax_setI σ a j v) (Nat.le_refl (ax_z σ)) h9) (ax_st_mono (σ := σ) (τ := ax_setI σ a j v) (Nat.le_refl (ax_z σ)) h10.2.2)
theorem ok_putR (C : OKC Γ cc own ret) {index ci j a : Nat} {ty : FieldType} {q : Nat} (L : ax_FL own index ci j 2 ty false) (hty : (∃ n, ty = .object n) ∨ ∃ n, ty = .array n) (hdg : decode cc pc = .ok (.putfield index, 3)) {g : AS → Option AR} (k : ∀ τ, τ = ax_setP σ a j (some q) → OK Γ (pc + 3) lv st (g τ) τ) : OK Γ pc lv (.ref q :: .ref a :: st) (sR σ a ci j q g) σ := by
  intro r hr
  unfold sR at hr
  split at hr
  case isFalse => cases hr
  case isTrue h =>
    obtain ⟨C0, T, N, ty0, l1, l2, l3, l4, l5, l6, l7, l8, l9, hfin, hdec, l12⟩ := L
    obtain ⟨m, w⟩ := k _ rfl r hr
    refine ⟨m, fun ad H locs ls h1 h2 h3 h4 h5 h6 h7 h8 h9 h10 => ?_⟩
    have hd := l8 j l2
    rw [l12] at hd
    refine va_put C.1 C.2.1 C.2.2.2.1 l6 ty0 l8 l9 C.2.2.1 C.2.2.2.2.1 h5.1 h5.2 h6 a ((ax_ws_get h.1).trans (by rw [ax_cell_o h.2 l3])) l1 j l2 (C.2.2.2.1 _ l7) (fun _ q => q) hfin hd (by rcases hty with ⟨n, rfl⟩ | ⟨n, rfl⟩ <;> rfl) (by rcases hty with ⟨n, rfl⟩ | ⟨n, rfl⟩ <;> rfl) (by rw [ax_flds_len, l4]; exact l2) hdg fun H1 locs1 hP hD hS => ?_
    rw [ax_set_fld (τ := ax_setP σ a j (some q)) h.2 l3 rfl rfl l5 (by show va_rf ((ax_up2 σ.2.2.1 a j (some q) a j).map ad) = _; rw [ax_up2_s]; rfl) (ax_oP σ a j (some q))] at hP hD
    exact w ad H1 locs1 ls h1 h2 h3 h4 ⟨hP, hD⟩ hS h7 (ax_clP h8 h10.1) (ax_lv_mono (σ := σ) (τ := ax_setP σ a j (some q)) (Nat.le_refl (ax_z σ)) h9) (ax_st_mono (σ := σ) (τ := ax_setP σ a j (some q)) (Nat.le_refl (ax_z σ)) h10.2.2)
theorem ok_putIF (C : OKC Γ cc own ret) {index ci j a : Nat} {v : Int32} (L : ax_FL own index ci j 0 .int true) (hin : (cx_meth Γ).name = "<init>") (hdg : decode cc pc = .ok (.putfield index, 3)) {g : AS → Option AR} (k : ∀ τ, τ = ax_setI σ a j v → OK Γ (pc + 3) lv st (g τ) τ) : OK Γ pc lv (.int v :: .ref a :: st) (sI σ a ci j v g) σ := by
  intro r hr
  unfold sI at hr
  split at hr
  case isFalse => cases hr
  case isTrue h =>
    obtain ⟨C0, T, N, ty0, l1, l2, l3, l4, l5, l6, l7, l8, l9, hfin, hdec, l12⟩ := L
    obtain ⟨m, w⟩ := k _ rfl r hr
    refine ⟨m, fun ad H locs ls h1 h2 h3 h4 h5 h6 h7 h8 h9 h10 => ?_⟩
    have hd := l8 j l2
    rw [l12] at hd
    refine va_putF C.1 C.2.1 C.2.2.2.1 l6 ty0 l8 l9 C.2.2.1 C.2.2.2.2.1 h5.1 h5.2 h6 a ((ax_ws_get h.1).trans (by rw [ax_cell_o h.2 l3])) l1 j l2 (C.2.2.2.1 _ l7) (fun _ q => q) hfin hin (hdec rfl) hd rfl rfl (by rw [ax_flds_len, l4]; exact l2) hdg fun H1 locs1 hP hD hS => ?_
    rw [ax_set_fld (τ := ax_setI σ a j v) h.2 l3 rfl rfl l5 (by show Value.int (ax_up2 σ.1 a j v a j) = Value.int v; rw [ax_up2_s]) (ax_oI σ a j v)] at hP hD
    exact w ad H1 locs1 ls h1 h2 h3 h4 ⟨hP, hD⟩ hS h7 h8 (ax_lv_mono (σ := σ) (τ := ax_setI σ a j v) (Nat.le_refl (ax_z σ)) h9) (ax_st_mono (σ := σ) (τ := ax_setI σ a j v) (Nat.le_refl (ax_z σ)) h10.2.2)
theorem ok_putZF (C : OKC Γ cc own ret) {index ci j a : Nat} {v : Int32} (L : ax_FL own index ci j 0 .boolean true) (hin : (cx_meth Γ).name = "<init>") (hdg : decode cc pc = .ok (.putfield index, 3)) {g : AS → Option AR} (k : ∀ τ, τ = ax_setI σ a j v → OK Γ (pc + 3) lv st (g τ) τ) : OK Γ pc lv (.int v :: .ref a :: st) (sZ σ a ci j v g) σ := by
  intro r hr
  unfold sZ at hr
  split at hr
  case isFalse => cases hr
  case isTrue h =>
    obtain ⟨C0, T, N, ty0, l1, l2, l3, l4, l5, l6, l7, l8, l9, hfin, hdec, l12⟩ := L
    obtain ⟨m, w⟩ := k _ rfl r hr
    refine ⟨m, fun ad H locs ls h1 h2 h3 h4 h5 h6 h7 h8 h9 h10 => ?_⟩
    have hd := l8 j l2
    rw [l12] at hd
    refine va_putF C.1 C.2.1 C.2.2.2.1 l6 ty0 l8 l9 C.2.2.1 C.2.2.2.2.1 h5.1 h5.2 h6 a ((ax_ws_get h.1.1).trans (by rw [ax_cell_o h.1.2 l3])) l1 j l2 (C.2.2.2.1 _ l7) (fun _ q => q) hfin hin (hdec rfl) hd (by rcases h.2 with e | e <;> rw [e] <;> rfl) (by rcases h.2 with e | e <;> rw [e] <;> rfl) (by rw [ax_flds_len, l4]; exact l2) hdg fun H1 locs1 hP hD hS => ?_
    rw [ax_set_fld (τ := ax_setI σ a j v) h.1.2 l3 rfl rfl l5 (by show Value.int (ax_up2 σ.1 a j v a j) = Value.int v; rw [ax_up2_s]) (ax_oI σ a j v)] at hP hD
    exact w ad H1 locs1 ls h1 h2 h3 h4 ⟨hP, hD⟩ hS h7 h8 (ax_lv_mono (σ := σ) (τ := ax_setI σ a j v) (Nat.le_refl (ax_z σ)) h9) (ax_st_mono (σ := σ) (τ := ax_setI σ a j v) (Nat.le_refl (ax_z σ)) h10.2.2)
theorem ok_putRF (C : OKC Γ cc own ret) {index ci j a : Nat} {ty : FieldType} {q : Nat} (L : ax_FL own index ci j 2 ty true) (hty : (∃ n, ty = .object n) ∨ ∃ n, ty = .array n) (hin : (cx_meth Γ).name = "<init>") (hdg : decode cc pc = .ok (.putfield index, 3)) {g : AS → Option AR} (k : ∀ τ, τ = ax_setP σ a j (some q) → OK Γ (pc + 3) lv st (g τ) τ) : OK Γ pc lv (.ref q :: .ref a :: st) (sR σ a ci j q g) σ := by
  intro r hr
  unfold sR at hr
  split at hr
  case isFalse => cases hr
  case isTrue h =>
    obtain ⟨C0, T, N, ty0, l1, l2, l3, l4, l5, l6, l7, l8, l9, hfin, hdec, l12⟩ := L
    obtain ⟨m, w⟩ := k _ rfl r hr
    refine ⟨m, fun ad H locs ls h1 h2 h3 h4 h5 h6 h7 h8 h9 h10 => ?_⟩
    have hd := l8 j l2
    rw [l12] at hd
    refine va_putF C.1 C.2.1 C.2.2.2.1 l6 ty0 l8 l9 C.2.2.1 C.2.2.2.2.1 h5.1 h5.2 h6 a ((ax_ws_get h.1).trans (by rw [ax_cell_o h.2 l3])) l1 j l2 (C.2.2.2.1 _ l7) (fun _ q => q) hfin hin (hdec rfl) hd (by rcases hty with ⟨n, rfl⟩ | ⟨n, rfl⟩ <;> rfl) (by rcases hty with ⟨n, rfl⟩ | ⟨n, rfl⟩ <;> rfl) (by rw [ax_flds_len, l4]; exact l2) hdg fun H1 locs1 hP hD hS => ?_
    rw [ax_set_fld (τ := ax_setP σ a j (some q)) h.2 l3 rfl rfl l5 (by show va_rf ((ax_up2 σ.2.2.1 a j (some q) a j).map ad) = _; rw [ax_up2_s]; rfl) (ax_oP σ a j (some q))] at hP hD
    exact w ad H1 locs1 ls h1 h2 h3 h4 ⟨hP, hD⟩ hS h7 (ax_clP h8 h10.1) (ax_lv_mono (σ := σ) (τ := ax_setP σ a j (some q)) (Nat.le_refl (ax_z σ)) h9) (ax_st_mono (σ := σ) (τ := ax_setP σ a j (some q)) (Nat.le_refl (ax_z σ)) h10.2.2)
theorem ok_putB (C : OKC Γ cc own ret) {index ci j a : Nat} {v : Int32} (L : ax_FL own index ci j 0 .byte false) (hdg : decode cc pc = .ok (.putfield index, 3)) {g : AS → Option AR} (k : ∀ τ, τ = ax_setI σ a j v → OK Γ (pc + 3) lv st (g τ) τ) : OK Γ pc lv (.int v :: .ref a :: st) (sB σ a ci j v g) σ := by
  intro r hr
  unfold sB at hr
  split at hr
  case isFalse => cases hr
  case isTrue h =>
    obtain ⟨C0, T, N, ty0, l1, l2, l3, l4, l5, l6, l7, l8, l9, hfin, hdec, l12⟩ := L
    obtain ⟨m, w⟩ := k _ rfl r hr
    refine ⟨m, fun ad H locs ls h1 h2 h3 h4 h5 h6 h7 h8 h9 h10 => ?_⟩
    have hd := l8 j l2
    rw [l12] at hd
    refine va_put C.1 C.2.1 C.2.2.2.1 l6 ty0 l8 l9 C.2.2.1 C.2.2.2.2.1 h5.1 h5.2 h6 a ((ax_ws_get h.1.1).trans (by rw [ax_cell_o h.1.2 l3])) l1 j l2 (C.2.2.2.1 _ l7) (fun _ q => q) hfin hd (by show Value.int v.toInt8.toInt32 = Value.int v; rw [h.2]) (by show fits .byte (.int v) = true; rw [← h.2]; exact pk_fb v) (by rw [ax_flds_len, l4]; exact l2) hdg fun H1 locs1 hP hD hS => ?_
    rw [ax_set_fld (τ := ax_setI σ a j v) h.1.2 l3 rfl rfl l5 (by show Value.int (ax_up2 σ.1 a j v a j) = Value.int v; rw [ax_up2_s]) (ax_oI σ a j v)] at hP hD
    exact w ad H1 locs1 ls h1 h2 h3 h4 ⟨hP, hD⟩ hS h7 h8 (ax_lv_mono (σ := σ) (τ := ax_setI σ a j v) (Nat.le_refl (ax_z σ)) h9) (ax_st_mono (σ := σ) (τ := ax_setI σ a j v) (Nat.le_refl (ax_z σ)) h10.2.2)
theorem ok_iald (C : OKC Γ cc own ret) {a : Nat} {i : Int32} (hdg : decode cc pc = .ok (.iaload, 1)) {g : Int32 → Option AR} (k : ∀ v, OK Γ (pc + 1) lv (.int v :: st) (g v) σ) : OK Γ pc lv (.int i :: .ref a :: st) (aI σ a 100 i g) σ := by
  intro r hr
  unfold aI at hr
  split at hr
  case isFalse => cases hr
  case isTrue h =>
    obtain ⟨m, w⟩ := k _ r hr
    exact ⟨m, fun ad H locs ls h1 h2 h3 h4 h5 h6 h7 h8 h9 h10 => va_iald C.1 C.2.1 C.2.2.2.2.1 h5.1 a 0 (f := ax_I σ a) (n := (ax_H σ a).2) ((ax_ws_get h.1).trans (by rw [ax_cell_a h.2.1 (by decide), ax_arr_I (by decide) (by decide) (by decide)])) rfl h.2.2 hdg (w ad H locs ls h1 h2 h3 h4 h5 h6 h7 h8 h9 ⟨trivial, h10.2.2⟩)⟩
theorem ok_zald (C : OKC Γ cc own ret) {a : Nat} {i : Int32} (hdg : decode cc pc = .ok (.baload, 1)) {g : Int32 → Option AR} (k : ∀ v, OK Γ (pc + 1) lv (.int v :: st) (g v) σ) : OK Γ pc lv (.int i :: .ref a :: st) (aI σ a 101 i g) σ := by
  intro r hr
  unfold aI at hr
  split at hr
  case isFalse => cases hr
  case isTrue h =>
    obtain ⟨m, w⟩ := k _ r hr
    exact ⟨m, fun ad H locs ls h1 h2 h3 h4 h5 h6 h7 h8 h9 h10 => va_zald C.1 C.2.1 C.2.2.2.2.1 h5.1 a 1 (f := ax_I σ a) (n := (ax_H σ a).2) ((ax_ws_get h.1).trans (by rw [ax_cell_a h.2.1 (by decide), ax_arr_I (by decide) (by decide) (by decide)])) rfl h.2.2 hdg (w ad H locs ls h1 h2 h3 h4 h5 h6 h7 h8 h9 ⟨trivial, h10.2.2⟩)⟩
theorem ok_bald (C : OKC Γ cc own ret) {a : Nat} {i : Int32} (hdg : decode cc pc = .ok (.baload, 1)) {g : Int32 → Option AR} (k : ∀ v, OK Γ (pc + 1) lv (.int v :: st) (g v) σ) : OK Γ pc lv (.int i :: .ref a :: st) (aI σ a 103 i g) σ := by
  intro r hr
  unfold aI at hr
  split at hr
  case isFalse => cases hr
  case isTrue h =>
    obtain ⟨m, w⟩ := k _ r hr
    exact ⟨m, fun ad H locs ls h1 h2 h3 h4 h5 h6 h7 h8 h9 h10 => va_bald C.1 C.2.1 C.2.2.2.2.1 h5.1 a 3 (f := ax_I σ a) (n := (ax_H σ a).2) ((ax_ws_get h.1).trans (by rw [ax_cell_a h.2.1 (by decide), ax_arr_I (by decide) (by decide) (by decide)])) rfl h.2.2 hdg (w ad H locs ls h1 h2 h3 h4 h5 h6 h7 h8 h9 ⟨trivial, h10.2.2⟩)⟩
theorem ok_lald (C : OKC Γ cc own ret) {a : Nat} {i : Int32} (hdg : decode cc pc = .ok (.laload, 1)) {g : Int64 → Option AR} (k : ∀ v, OK Γ (pc + 1) lv (.long v :: st) (g v) σ) : OK Γ pc lv (.int i :: .ref a :: st) (aJ σ a i g) σ := by
  intro r hr
  unfold aJ at hr
  split at hr
  case isFalse => cases hr
  case isTrue h =>
    obtain ⟨m, w⟩ := k _ r hr
    exact ⟨m, fun ad H locs ls h1 h2 h3 h4 h5 h6 h7 h8 h9 h10 => va_lald C.1 C.2.1 C.2.2.2.2.1 h5.1 a 2 (f := ax_J σ a) (n := (ax_H σ a).2) ((ax_ws_get h.1).trans (by rw [ax_cell_a h.2.1 (by decide), ax_arr_J])) rfl h.2.2 hdg (w ad H locs ls h1 h2 h3 h4 h5 h6 h7 h8 h9 ⟨trivial, h10.2.2⟩)⟩
theorem ok_aald (C : OKC Γ cc own ret) (t t0 : Nat) {a : Nat} {i : Int32} {Cn : String} (ht : ∀ dA, (ax_ty dA)[t0]? = some (dA t, .object Cn)) (h110 : 110 ≤ t) (hdg : decode cc pc = .ok (.aaload, 1)) {g : Nat → Option AR} (k : ∀ q, OK Γ (pc + 1) lv (.ref q :: st) (g q) σ) : OK Γ pc lv (.int i :: .ref a :: st) (aR σ a t i g) σ := by
  intro r hr
  unfold aR at hr
  split at hr
  case isFalse => cases hr
  case isTrue h =>
    split at hr
    case h_2 => cases hr
    case h_1 q hq =>
      obtain ⟨m, w⟩ := k _ r hr
      refine ⟨m, fun ad H locs ls h1 h2 h3 h4 h5 h6 h7 h8 h9 h10 => ?_⟩
      have hw := w ad H locs ls h1 h2 h3 h4 h5 h6 h7 h8 h9 ⟨h8 a _ q h.1 hq, h10.2.2⟩
      refine va_aldq C.1 C.2.1 C.2.2.2.2.1 h5.1 a t0 (f := fun j => (ax_P σ a j).map ad) (n := (ax_H σ a).2) ((ax_ws_get h.1).trans (by rw [ax_cell_a h.2.1 (by omega), ax_arr_R h110])) (ht _) h.2.2 hdg ?_
      show W _ _ _ _ _ _ _ _ _ _ _ _ _ _ _ (F0 _ _ _ (va_rf ((ax_P σ a i.toNatClampNeg).map ad) :: _))
      rw [hq]
      exact hw
theorem ok_alen (C : OKC Γ cc own ret) (t t0 : Nat) {a : Nat} {ty : FieldType} (ht : ∀ dA, (ax_ty dA)[t0]? = some (dA t, ty)) (h100 : 100 ≤ t) (hdg : decode cc pc = .ok (.arraylength, 1)) {g : Int32 → Option AR} (k : ∀ v, OK Γ (pc + 1) lv (.int v :: st) (g v) σ) : OK Γ pc lv (.ref a :: st) (aL σ a t g) σ := by
  intro r hr
  unfold aL at hr
  split at hr
  case isFalse => cases hr
  case isTrue h =>
    obtain ⟨m, w⟩ := k _ r hr
    have hc : ∀ (dA : Nat → ClassId) (ad : Nat → Nat), ∃ x : vp_A, ax_cell dA ad σ a = .inl (dA t, x) ∧ x.1 = (ax_H σ a).2 := by
      intro dA ad
      rw [ax_cell_a h.2 (by omega)]
      unfold ax_arr
      by_cases e2 : t = 102
      · exact ⟨_, by rw [if_pos e2, e2], rfl⟩
      · by_cases e4 : t = 104
        · exact ⟨_, by rw [if_neg e2, if_pos e4, e4], rfl⟩
        · by_cases e9 : t < 110
          · exact ⟨_, by rw [if_neg e2, if_neg e4, if_pos e9], rfl⟩
          · exact ⟨_, by rw [if_neg e2, if_neg e4, if_neg e9], rfl⟩
    refine ⟨m, fun ad H locs ls h1 h2 h3 h4 h5 h6 h7 h8 h9 h10 => ?_⟩
    obtain ⟨x, x1, x2⟩ := hc (cx_dA Γ) ad
    exact va_alen C.1 C.2.1 C.2.2.2.2.1 h5.1 a t0 (x := x) ((ax_ws_get h.1).trans (by rw [x1])) (ht _) (by rw [x2]) hdg (w ad H locs ls h1 h2 h3 h4 h5 h6 h7 h8 h9 ⟨trivial, h10.2⟩)
theorem ok_iast (C : OKC Γ cc own ret) {a : Nat} {i : Int32} {x : Int32} (hdg : decode cc pc = .ok (.iastore, 1)) {g : AS → Option AR} (k : ∀ τ, τ = ax_setI σ a i.toNatClampNeg x → OK Γ (pc + 1) lv st (g τ) τ) : OK Γ pc lv (.int x :: .int i :: .ref a :: st) (uI σ a i x g) σ := by
  intro r hr
  unfold uI at hr
  split at hr
  case isFalse => cases hr
  case isTrue h =>
    obtain ⟨m, w⟩ := k _ rfl r hr
    refine ⟨m, fun ad H locs ls h1 h2 h3 h4 h5 h6 h7 h8 h9 h10 => ?_⟩
    refine va_iast C.1 C.2.1 C.2.2.2.2.1 h5.1 h5.2 h6 a 0 (f := ax_I σ a) (n := (ax_H σ a).2) ((ax_ws_get h.1).trans (by rw [ax_cell_a h.2.1 (by decide), ax_arr_I (by decide) (by decide) (by decide)])) rfl h.2.2 hdg fun H1 locs1 hP hD hS => ?_
    rw [ax_set_arr (τ := ax_setI σ a i.toNatClampNeg x) h.2.1 (by decide) rfl rfl (fun b z hb => (ax_oI σ a i.toNatClampNeg x) b z (fun q => hb q.1)) (by rw [ax_arr_I (by decide) (by decide) (by decide), ax_updI])] at hP hD
    exact w ad H1 locs1 ls h1 h2 h3 h4 ⟨hP, hD⟩ hS h7 h8 (ax_lv_mono (σ := σ) (τ := ax_setI σ a i.toNatClampNeg x) (Nat.le_refl (ax_z σ)) h9) (ax_st_mono (σ := σ) (τ := ax_setI σ a i.toNatClampNeg x) (Nat.le_refl (ax_z σ)) h10.2.2.2)
theorem ok_zast (C : OKC Γ cc own ret) {a : Nat} {i : Int32} {x : Int32} (hdg : decode cc pc = .ok (.bastore, 1)) {g : AS → Option AR} (k : ∀ τ, τ = ax_setI σ a i.toNatClampNeg (vp_nar .boolean x) → OK Γ (pc + 1) lv st (g τ) τ) : OK Γ pc lv (.int x :: .int i :: .ref a :: st) (uN 101 .boolean σ a i x g) σ := by
  intro r hr
  unfold uN at hr
  split at hr
  case isFalse => cases hr
  case isTrue h =>
    obtain ⟨m, w⟩ := k _ rfl r hr
    refine ⟨m, fun ad H locs ls h1 h2 h3 h4 h5 h6 h7 h8 h9 h10 => ?_⟩
    refine va_zast C.1 C.2.1 C.2.2.2.2.1 h5.1 h5.2 h6 a 1 (f := ax_I σ a) (n := (ax_H σ a).2) ((ax_ws_get h.1).trans (by rw [ax_cell_a h.2.1 (by decide), ax_arr_I (by decide) (by decide) (by decide)])) rfl h.2.2 hdg fun H1 locs1 hP hD hS => ?_
    rw [ax_set_arr (τ := ax_setI σ a i.toNatClampNeg (vp_nar .boolean x)) h.2.1 (by decide) rfl rfl (fun b z hb => (ax_oI σ a i.toNatClampNeg (vp_nar .boolean x)) b z (fun q => hb q.1)) (by rw [ax_arr_I (by decide) (by decide) (by decide), ax_updI])] at hP hD
    exact w ad H1 locs1 ls h1 h2 h3 h4 ⟨hP, hD⟩ hS h7 h8 (ax_lv_mono (σ := σ) (τ := ax_setI σ a i.toNatClampNeg (vp_nar .boolean x)) (Nat.le_refl (ax_z σ)) h9) (ax_st_mono (σ := σ) (τ := ax_setI σ a i.toNatClampNeg (vp_nar .boolean x)) (Nat.le_refl (ax_z σ)) h10.2.2.2)
theorem ok_bast (C : OKC Γ cc own ret) {a : Nat} {i : Int32} {x : Int32} (hdg : decode cc pc = .ok (.bastore, 1)) {g : AS → Option AR} (k : ∀ τ, τ = ax_setI σ a i.toNatClampNeg (vp_nar .byte x) → OK Γ (pc + 1) lv st (g τ) τ) : OK Γ pc lv (.int x :: .int i :: .ref a :: st) (uN 103 .byte σ a i x g) σ := by
  intro r hr
  unfold uN at hr
  split at hr
  case isFalse => cases hr
  case isTrue h =>
    obtain ⟨m, w⟩ := k _ rfl r hr
    refine ⟨m, fun ad H locs ls h1 h2 h3 h4 h5 h6 h7 h8 h9 h10 => ?_⟩
    refine va_bast C.1 C.2.1 C.2.2.2.2.1 h5.1 h5.2 h6 a 3 (f := ax_I σ a) (n := (ax_H σ a).2) ((ax_ws_get h.1).trans (by rw [ax_cell_a h.2.1 (by decide), ax_arr_I (by decide) (by decide) (by decide)])) rfl h.2.2 hdg fun H1 locs1 hP hD hS => ?_
    rw [ax_set_arr (τ := ax_setI σ a i.toNatClampNeg (vp_nar .byte x)) h.2.1 (by decide) rfl rfl (fun b z hb => (ax_oI σ a i.toNatClampNeg (vp_nar .byte x)) b z (fun q => hb q.1)) (by rw [ax_arr_I (by decide) (by decide) (by decide), ax_updI])] at hP hD
    exact w ad H1 locs1 ls h1 h2 h3 h4 ⟨hP, hD⟩ hS h7 h8 (ax_lv_mono (σ := σ) (τ := ax_setI σ a i.toNatClampNeg (vp_nar .byte x)) (Nat.le_refl (ax_z σ)) h9) (ax_st_mono (σ := σ) (τ := ax_setI σ a i.toNatClampNeg (vp_nar .byte x)) (Nat.le_refl (ax_z σ)) h10.2.2.2)
theorem ok_last (C : OKC Γ cc own ret) {a : Nat} {i : Int32} {x : Int64} (hdg : decode cc pc = .ok (.lastore, 1)) {g : AS → Option AR} (k : ∀ τ, τ = ax_setJ σ a i.toNatClampNeg x → OK Γ (pc + 1) lv st (g τ) τ) : OK Γ pc lv (.long x :: .int i :: .ref a :: st) (uJ σ a i x g) σ := by
  intro r hr
  unfold uJ at hr
  split at hr
  case isFalse => cases hr
  case isTrue h =>
    obtain ⟨m, w⟩ := k _ rfl r hr
    refine ⟨m, fun ad H locs ls h1 h2 h3 h4 h5 h6 h7 h8 h9 h10 => ?_⟩
    refine va_last C.1 C.2.1 C.2.2.2.2.1 h5.1 h5.2 h6 a 2 (f := ax_J σ a) (n := (ax_H σ a).2) ((ax_ws_get h.1).trans (by rw [ax_cell_a h.2.1 (by decide), ax_arr_J])) rfl h.2.2 hdg fun H1 locs1 hP hD hS => ?_
    rw [ax_set_arr (τ := ax_setJ σ a i.toNatClampNeg x) h.2.1 (by decide) rfl rfl (fun b z hb => (ax_oJ σ a i.toNatClampNeg x) b z (fun q => hb q.1)) (by rw [ax_arr_J, ax_updJ])] at hP hD
    exact w ad H1 locs1 ls h1 h2 h3 h4 ⟨hP, hD⟩ hS h7 h8 (ax_lv_mono (σ := σ) (τ := ax_setJ σ a i.toNatClampNeg x) (Nat.le_refl (ax_z σ)) h9) (ax_st_mono (σ := σ) (τ := ax_setJ σ a i.toNatClampNeg x) (Nat.le_refl (ax_z σ)) h10.2.2.2)
end OKH
