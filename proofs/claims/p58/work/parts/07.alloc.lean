/-! NEW CELLS -/
theorem ax_cl_new {σ : AS} {t n : Nat} (h : ax_cl σ) : ax_cl (ax_new σ t n) := by
  intro a j q ha hp
  have hp : (if a = ax_z σ then none else ax_P σ a j) = some q := hp
  split at hp
  · cases hp
  · rename_i e
    have ha : a < ax_z σ + 1 := ha
    exact (h a j q (by omega) hp).imp (fun z => Nat.lt_succ_of_lt z) id
theorem ax_ws_new {dA : Nat → ClassId} {ad : Nat → Nat} {σ : AS} {t n q : Nat} (hcl : ax_cl σ) (hz : ax_z σ < 1000000) :
    ax_ws dA (fun k => if k = ax_z σ then q else ad k) (ax_new σ t n) = ax_ws dA ad σ ++ [(q, ax_cell dA (fun k => if k = ax_z σ then q else ad k) (ax_new σ t n) (ax_z σ))] := by
  unfold ax_ws
  show (List.range (ax_z σ + 1)).map _ = _
  rw [List.range_succ, List.map_append]
  congr 1
  · apply List.map_congr_left
    intro k hk
    have hk : k < ax_z σ := List.mem_range.mp hk
    have hn : k ≠ ax_z σ := Nat.ne_of_lt hk
    rw [ax_cell_cong (σ := σ) (ad := ad) (if_neg hn) (fun j => if_neg hn) (fun j => if_neg hn) (fun j => ?_)]
    · exact congrArg (fun z => (z, ax_cell dA ad σ k)) (if_neg hn)
    show (if k = ax_z σ then none else ax_P σ k j).map _ = _
    rw [if_neg hn]
    cases hp : ax_P σ k j with
    | none => rfl
    | some v =>
      have hv := hcl k j v hk hp
      show some (if v = ax_z σ then q else ad v) = some (ad v)
      rw [if_neg (by omega)]
  · show [((fun k => if k = ax_z σ then q else ad k) (ax_z σ), _)] = _
    rw [show (fun k => if k = ax_z σ then q else ad k) (ax_z σ) = q from if_pos rfl]
/-- what a new object holds fits what the class's fields begin with -/
def ax_DF (ci N : Nat) : Prop := ∃ (C0 : String) (T : u_T) (ty0 : Nat → FieldType), vwCl[ci]? = some (C0, T, N) ∧ ci < 100 ∧ (∀ w ∈ u_ws C0 T N, w ∈ ax_ALL) ∧ (∀ k, k < N → parseFieldDescriptor (T k).2.2.1 = some (ty0 k)) ∧ (ax_tags ci).length = N ∧ (∀ j, j < N → defaultValue (ty0 j) = (match (ax_tags ci).getD j 9 with | 0 => Value.int 0 | 1 => Value.long 0 | _ => Value.null)) ∧ Cond.instantiable C0 N ∈ ax_ALL ∧ Cond.initialized C0 ∈ ax_ALL
theorem ax_zflds {ad : Nat → Nat} {σ : AS} {k : Nat} (h1 : ∀ j, ax_I σ k j = 0) (h2 : ∀ j, ax_J σ k j = 0) (h3 : ∀ j, ax_P σ k j = none) (ts : List Nat) (j : Nat) (hj : j < ts.length) : vp_V (ax_flds ad σ k ts 0) j = (match ts.getD j 9 with | 0 => Value.int 0 | 1 => Value.long 0 | _ => Value.null) := by
  unfold vp_V
  have ht : ts[j]? = some (ts.getD j 9) := by rw [List.getD_eq_getElem?_getD, List.getElem?_eq_getElem hj]; rfl
  have hg := ax_flds_get (ad := ad) (σ := σ) (k := k) ts 0 j _ ht
  rw [List.getD_eq_getElem?_getD, hg, h1, h2, h3]
  generalize ts.getD j 9 = t
  match t with
  | 0 => rfl
  | 1 => rfl
  | t + 2 => simp [va_rf]
section OKA
variable {Γ : CX} {cc : ByteArray} {own : String} {ret : Option FieldType} {pc : Nat} {lv : List (Nat × Value)} {st : List Value} {σ : AS}
/-- behind a new cell -/
theorem ax_grow {Γ : CX} {pc : Nat} {lv : List (Nat × Value)} {st : List Value} {σ : AS} {r : AR} {t n : Nat} {ad : Nat → Nat} {H1 : Heap} {locs : List Loc} {ls : Array Slot} {q : Nat} (w : WK Γ pc lv (.ref (ax_z σ) :: st) (ax_new σ t n) r) (hz : ax_z σ < 1000000)
    (h1 : ax_nc (cx_w Γ) ≤ ax_nc σ) (h2 : ax_ns (cx_w Γ) ≤ ax_ns σ) (h3 : ax_z (cx_w Γ) ≤ ax_z σ) (h4 : ∀ k, k < ax_z (cx_w Γ) ∨ 1000000 ≤ k → ad k = cx_ad Γ k) (h7 : lv_has ls (cx_nL Γ) (lv.map (fun q => (q.1, ax_cv ad q.2)))) (h8 : ax_cl σ) (h9 : ax_lv σ lv) (h10 : ax_st σ st)
    (hP : va_P (cx_D Γ) vwCl (ax_ws (cx_dA Γ) ad σ ++ [(q, ax_cell (cx_dA Γ) (fun k => if k = ax_z σ then q else ad k) (ax_new σ t n) (ax_z σ))]) H1) (hD : va_D (cx_A Γ) (ax_ws (cx_dA Γ) ad σ ++ [(q, ax_cell (cx_dA Γ) (fun k => if k = ax_z σ then q else ad k) (ax_new σ t n) (ax_z σ))])) (hS : va_S (cx_A Γ) (cx_s Γ).heap H1 locs) :
    W (cx_p Γ) (cx_l Γ) (cx_e Γ) (cx_R Γ r) (cx_s Γ) (cx_m Γ) (cx_a Γ) (cx_below Γ) (cx_meth Γ) (cx_c Γ) H1 locs (ax_nc σ - ax_nc (cx_w Γ) + 1) (ax_ns σ - ax_ns (cx_w Γ) + n) (cx_Q Γ r) (F0 (cx_m Γ) pc ls (.ref q :: st.map (ax_cv ad))) := by
  have had : ∀ k, k < ax_z σ ∨ 1000000 ≤ k → (fun k => if k = ax_z σ then q else ad k) k = ad k := fun k hk => if_neg (by omega)
  have hw := w (fun k => if k = ax_z σ then q else ad k) H1 locs ls (Nat.le_succ_of_le h1) (Nat.le_trans h2 (Nat.le_add_right _ _)) (Nat.le_succ_of_le h3)
    (fun k hk => (had k (hk.imp (fun z => Nat.lt_of_lt_of_le z h3) id)).trans (h4 k hk)) ⟨by rw [ax_ws_new h8 hz]; exact hP, by rw [ax_ws_new h8 hz]; exact hD⟩ hS (by rw [ax_lv_cong had h9]; exact h7) (ax_cl_new h8) (ax_lv_mono (σ := σ) (τ := ax_new σ t n) (Nat.le_succ _) h9) ⟨Or.inl (Nat.lt_succ_self _), ax_st_mono (σ := σ) (τ := ax_new σ t n) (Nat.le_succ _) h10⟩
  rw [List.map_cons, ax_st_cong had h10] at hw
  have e0 : ax_cv (fun k => if k = ax_z σ then q else ad k) (.ref (ax_z σ)) = .ref q := congrArg Value.ref (if_pos rfl)
  rw [e0] at hw
  have ea : ax_nc (ax_new σ t n) - ax_nc (cx_w Γ) = ax_nc σ - ax_nc (cx_w Γ) + 1 := by show ax_nc σ + 1 - _ = _; omega
  have eb : ax_ns (ax_new σ t n) - ax_ns (cx_w Γ) = ax_ns σ - ax_ns (cx_w Γ) + n := by show ax_ns σ + n - _ = _; omega
  rw [ea, eb] at hw
  exact hw
def nO (σ : AS) (ci n : Nat) (g : Nat → AS → Option AR) : Option AR := if ax_z σ < 1000000 then g (ax_z σ) (ax_new σ ci n) else none
def nA (σ : AS) (t : Nat) (n : Int32) (g : Nat → AS → Option AR) : Option AR := if ax_z σ < 1000000 ∧ ¬ n < 0 ∧ n.toNatClampNeg ≤ 100000 then g (ax_z σ) (ax_new σ t n.toNatClampNeg) else none
theorem ok_new (C : OKC Γ cc own ret) {index ci N : Nat} {C0 : String} (L : ax_DF ci N) (hc : ∃ T, vwCl[ci]? = some (C0, T, N)) (Lk : Cond.classLink own index C0 ∈ ax_ALL) (hdg : decode cc pc = .ok (.new index, 3)) {g : Nat → AS → Option AR} (k : ∀ q τ, OK Γ (pc + 3) lv (.ref q :: st) (g q τ) τ) : OK Γ pc lv st (nO σ ci N g) σ := by
  intro r hr
  unfold nO at hr
  split at hr
  case isFalse => cases hr
  case isTrue hz =>
    obtain ⟨m, w⟩ := k _ _ r hr
    obtain ⟨C1, T, ty0, l1, l2, l3, l4, l5, l6, l7, l8⟩ := L
    obtain ⟨T', hc⟩ := hc
    cases l1.symm.trans hc
    have m1 : ax_nc σ + 1 ≤ ax_nc r.2 := m.1
    have m2 : ax_ns σ + N ≤ ax_ns r.2 := m.2.1
    have m3 : ax_z σ + 1 ≤ ax_z r.2 := m.2.2
    refine ⟨⟨by omega, by omega, by omega⟩, fun ad H locs ls h1 h2 h3 h4 h5 h6 h7 h8 h9 h10 => ?_⟩
    refine va_new (ci := ci) (fs := ax_flds ad (ax_new σ ci N) (ax_z σ) (ax_tags ci) 0) C.1 C.2.1 C.2.2.2.1 l3 ty0 l4 C.2.2.1 (C.2.2.2.1 _ Lk) (C.2.2.2.1 _ l7) (C.2.2.2.1 _ l8) C.2.2.2.2.1 h5.1 h5.2 h6 cx_new l1
      (fun j hj => by rw [l6 j hj, ax_zflds (fun j => if_pos rfl) (fun j => if_pos rfl) (fun j => if_pos rfl) _ j (by omega)]) (by show _ ≤ ax_nc r.2 - _; omega) (by show _ ≤ ax_ns r.2 - _; omega) hdg fun q H1 hP hD hS => ?_
    have hcell : ax_cell (cx_dA Γ) (fun k => if k = ax_z σ then q else ad k) (ax_new σ ci N) (ax_z σ) = .inr (ci, ax_flds ad (ax_new σ ci N) (ax_z σ) (ax_tags ci) 0) := by
      rw [ax_cell_o (show (ax_H (ax_new σ ci N) (ax_z σ)).1 = ci from congrArg Prod.fst (if_pos rfl)) l2]
      refine congrArg (fun z => Sum.inr (ci, z)) (ax_flds_cong _ _ (fun j => rfl) (fun j => rfl) (fun j => ?_))
      show (if ax_z σ = ax_z σ then none else ax_P σ (ax_z σ) j).map _ = (if ax_z σ = ax_z σ then none else ax_P σ (ax_z σ) j).map _
      rw [if_pos rfl]
      rfl
    exact ax_grow (pc := pc + 3) w hz h1 h2 h3 h4 h7 h8 h9 h10 (by rw [hcell]; exact hP) (by rw [hcell]; exact hD) hS
/-- an array of numbers -/
theorem ok_newa (C : OKC Γ cc own ret) (t t0 : Nat) {atype : ArrayType} (ty : FieldType) {n : Int32} (a0 : Nat → vp_A) (harr : Cond.arrayClass (newarray.typeOf atype) ∈ ax_ALL) (hty : newarray.typeOf atype = ty) (ht : ∀ dA, (ax_ty dA)[t0]? = some (dA t, ty)) (h100 : ¬ t < 100)
    (ha : ∀ (cA : ClassId) (N : Nat), vp_cell cA (a0 N) = arrV cA N (fun _ => defaultValue ty)) (hcomp : componentBytes ty ≤ 8) (hnm : ∀ (U : State) (cA : ClassId), va_RA U cA ty → U.vm.findClass ("[" ++ ty.toString) = some cA)
    (hcl : ∀ (dA : Nat → ClassId) (ad : Nat → Nat) (σ : AS) (k N : Nat), (∀ j, ax_I σ k j = 0) → (∀ j, ax_J σ k j = 0) → (∀ j, ax_P σ k j = none) → ax_arr dA ad σ k t N = .inl (dA t, a0 N)) (hdg : decode cc pc = .ok (.newarray atype, 2)) {g : Nat → AS → Option AR} (k : ∀ q τ, OK Γ (pc + 2) lv (.ref q :: st) (g q τ) τ) : OK Γ pc lv (.int n :: st) (nA σ t n g) σ := by
  intro r hr
  unfold nA at hr
  split at hr
  case isFalse => cases hr
  case isTrue hz =>
    obtain ⟨hz, hn, hb⟩ := hz
    obtain ⟨m, w⟩ := k _ _ r hr
    have m1 : ax_nc σ + 1 ≤ ax_nc r.2 := m.1
    have m2 : ax_ns σ + n.toNatClampNeg ≤ ax_ns r.2 := m.2.1
    have m3 : ax_z σ + 1 ≤ ax_z r.2 := m.2.2
    refine ⟨⟨by omega, by omega, by omega⟩, fun ad H locs ls h1 h2 h3 h4 h5 h6 h7 h8 h9 h10 => ?_⟩
    refine va_newa (a0 := a0 n.toNatClampNeg) C.1 C.2.1 (C.2.2.2.1 _ harr) hty C.2.2.2.2.1 h5.1 h5.2 h6 cx_new (fun cA => ha cA _) hn rfl (Nat.le_trans (Nat.mul_le_mul hb hcomp) (by decide)) (by show _ ≤ ax_nc r.2 - _; omega) (by show _ ≤ ax_ns r.2 - _; omega) hdg fun q cA H1 hK hP hD hS => ?_
    have e1 := hnm _ _ (C.2.2.2.2.1.2 t0 _ (ht _)).2
    have e2 := hnm _ _ (hK.2 (ax_ty (cx_dA Γ)).length (cA, ty) (by rw [List.getElem?_append_right (Nat.le_refl _), Nat.sub_self]; rfl)).2
    have hcA : cA = cx_dA Γ t := Option.some.inj (e2.symm.trans e1)
    subst hcA
    have hcell : ax_cell (cx_dA Γ) (fun k => if k = ax_z σ then q else ad k) (ax_new σ t n.toNatClampNeg) (ax_z σ) = .inl (cx_dA Γ t, a0 n.toNatClampNeg) := by
      have hH : ax_H (ax_new σ t n.toNatClampNeg) (ax_z σ) = (t, n.toNatClampNeg) := if_pos rfl
      rw [ax_cell_a (congrArg Prod.fst hH) h100, congrArg Prod.snd hH]
      exact hcl _ _ _ _ _ (fun j => if_pos rfl) (fun j => if_pos rfl) (fun j => if_pos rfl)
    exact ax_grow (pc := pc + 2) w hz h1 h2 h3 h4 h7 h8 h9 h10.2 (by rw [hcell]; exact hP) (by rw [hcell]; exact hD) hS
theorem ax_z0 {σ : AS} {k : Nat} (h1 : ∀ j, ax_I σ k j = 0) : ax_I σ k = fun _ => 0 := funext h1
theorem ok_newI (C : OKC Γ cc own ret) {n : Int32} (harr : Cond.arrayClass .int ∈ ax_ALL) (hdg : decode cc pc = .ok (.newarray .int, 2)) {g : Nat → AS → Option AR} (k : ∀ q τ, OK Γ (pc + 2) lv (.ref q :: st) (g q τ) τ) : OK Γ pc lv (.int n :: st) (nA σ 100 n g) σ :=
  ok_newa (atype := .int) C 100 0 .int (fun N => (N, .inl (fun _ => 0))) harr rfl (fun _ => rfl) (by decide) (fun _ _ => rfl) (by decide) (fun _ _ h => h) (fun dA ad σ k N h1 _ _ => by rw [ax_arr_I (by decide) (by decide) (by decide), ax_z0 h1]) hdg k
theorem ok_newZ (C : OKC Γ cc own ret) {n : Int32} (harr : Cond.arrayClass .boolean ∈ ax_ALL) (hdg : decode cc pc = .ok (.newarray .boolean, 2)) {g : Nat → AS → Option AR} (k : ∀ q τ, OK Γ (pc + 2) lv (.ref q :: st) (g q τ) τ) : OK Γ pc lv (.int n :: st) (nA σ 101 n g) σ :=
  ok_newa (atype := .boolean) C 101 1 .boolean (fun N => (N, .inl (fun _ => 0))) harr rfl (fun _ => rfl) (by decide) (fun _ _ => rfl) (by decide) (fun _ _ h => h) (fun dA ad σ k N h1 _ _ => by rw [ax_arr_I (by decide) (by decide) (by decide), ax_z0 h1]) hdg k
theorem ok_newB (C : OKC Γ cc own ret) {n : Int32} (harr : Cond.arrayClass .byte ∈ ax_ALL) (hdg : decode cc pc = .ok (.newarray .byte, 2)) {g : Nat → AS → Option AR} (k : ∀ q τ, OK Γ (pc + 2) lv (.ref q :: st) (g q τ) τ) : OK Γ pc lv (.int n :: st) (nA σ 103 n g) σ :=
  ok_newa (atype := .byte) C 103 3 .byte (fun N => (N, .inl (fun _ => 0))) harr rfl (fun _ => rfl) (by decide) (fun _ _ => rfl) (by decide) (fun _ _ h => h) (fun dA ad σ k N h1 _ _ => by rw [ax_arr_I (by decide) (by decide) (by decide), ax_z0 h1]) hdg k
theorem ok_newJ (C : OKC Γ cc own ret) {n : Int32} (harr : Cond.arrayClass .long ∈ ax_ALL) (hdg : decode cc pc = .ok (.newarray .long, 2)) {g : Nat → AS → Option AR} (k : ∀ q τ, OK Γ (pc + 2) lv (.ref q :: st) (g q τ) τ) : OK Γ pc lv (.int n :: st) (nA σ 102 n g) σ :=
  ok_newa (atype := .long) C 102 2 .long (fun N => (N, .inr (.inl (fun _ => 0)))) harr rfl (fun _ => rfl) (by decide) (fun _ _ => rfl) (by decide) (fun _ _ h => h) (fun dA ad σ k N _ h2 _ => by rw [ax_arr_J, show ax_J σ k = fun _ => 0 from funext h2]) hdg k
/-- an array of references to objects of one class -/
theorem ok_newq (C : OKC Γ cc own ret) (t t0 : Nat) {index : Nat} {C0 : String} {n : Int32} (Lk : Cond.classLink own index C0 ∈ ax_ALL) (hover : va_AO C0 (cx_s Γ)) (ht : ∀ dA, (ax_ty dA)[t0]? = some (dA t, .object C0)) (h110 : 110 ≤ t) (hdg : decode cc pc = .ok (.anewarray index, 3)) {g : Nat → AS → Option AR} (k : ∀ q τ, OK Γ (pc + 3) lv (.ref q :: st) (g q τ) τ) : OK Γ pc lv (.int n :: st) (nA σ t n g) σ := by
  intro r hr
  unfold nA at hr
  split at hr
  case isFalse => cases hr
  case isTrue hz =>
    obtain ⟨hz, hn, hb⟩ := hz
    obtain ⟨m, w⟩ := k _ _ r hr
    have m1 : ax_nc σ + 1 ≤ ax_nc r.2 := m.1
    have m2 : ax_ns σ + n.toNatClampNeg ≤ ax_ns r.2 := m.2.1
    have m3 : ax_z σ + 1 ≤ ax_z r.2 := m.2.2
    refine ⟨⟨by omega, by omega, by omega⟩, fun ad H locs ls h1 h2 h3 h4 h5 h6 h7 h8 h9 h10 => ?_⟩
    refine va_newq C.1 C.2.1 C.2.2.1 (C.2.2.2.1 _ Lk) hover C.2.2.2.2.1 h5.1 h5.2 h6 cx_new hn rfl (by omega) (by show _ ≤ ax_nc r.2 - _; omega) (by show _ ≤ ax_ns r.2 - _; omega) hdg fun q cA H1 hK hP hD hS => ?_
    obtain ⟨-, -, -, -, -, e1⟩ := (C.2.2.2.2.1.2 t0 _ (ht _)).2
    obtain ⟨-, -, -, -, -, e2⟩ := (hK.2 (ax_ty (cx_dA Γ)).length (cA, .object C0) (by rw [List.getElem?_append_right (Nat.le_refl _), Nat.sub_self]; rfl)).2
    have hcA : cA = cx_dA Γ t := Option.some.inj (e2.symm.trans e1)
    subst hcA
    have hcell : ax_cell (cx_dA Γ) (fun k => if k = ax_z σ then q else ad k) (ax_new σ t n.toNatClampNeg) (ax_z σ) = .inl (cx_dA Γ t, n.toNatClampNeg, .inr (.inr (.inr (.inr (fun _ => none))))) := by
      have hH : ax_H (ax_new σ t n.toNatClampNeg) (ax_z σ) = (t, n.toNatClampNeg) := if_pos rfl
      rw [ax_cell_a (congrArg Prod.fst hH) (by omega), congrArg Prod.snd hH, ax_arr_R h110]
      have e : (fun j => (ax_P (ax_new σ t n.toNatClampNeg) (ax_z σ) j).map (fun k => if k = ax_z σ then q else ad k)) = fun _ => none := by
        funext j
        show (if ax_z σ = ax_z σ then none else ax_P σ (ax_z σ) j).map _ = none
        rw [if_pos rfl]
        rfl
      rw [e]
    exact ax_grow (pc := pc + 3) w hz h1 h2 h3 h4 h7 h8 h9 h10.2 (by rw [hcell]; exact hP) (by rw [hcell]; exact hD) hS
/-- a reference into an array of its class -/
theorem ok_aast (C : OKC Γ cc own ret) (t t0 ci : Nat) {a q : Nat} {i : Int32} {C0 : String} {T0 : u_T} {N0 : Nat} (ht : ∀ dA, (ax_ty dA)[t0]? = some (dA t, .object C0)) (h110 : 110 ≤ t) (hc : vwCl[ci]? = some (C0, T0, N0)) (hci : ci < 100) (hdg : decode cc pc = .ok (.aastore, 1)) {g : AS → Option AR} (k : ∀ τ, OK Γ (pc + 1) lv st (g τ) τ) : OK Γ pc lv (.ref q :: .int i :: .ref a :: st) (uR σ a t ci i q g) σ := by
  intro r hr
  unfold uR at hr
  split at hr
  case isFalse => cases hr
  case isTrue h =>
    obtain ⟨m, w⟩ := k _ r hr
    refine ⟨m, fun ad H locs ls h1 h2 h3 h4 h5 h6 h7 h8 h9 h10 => ?_⟩
    refine va_astq C.1 C.2.1 C.2.2.2.2.1 h5.1 h5.2 h6 a t0 q ci (r := (C0, T0, N0)) (f := fun j => (ax_P σ a j).map ad) (n := (ax_H σ a).2) (vs := ax_flds ad σ q (ax_tags ci) 0) ((ax_ws_get h.1).trans (by rw [ax_cell_a h.2.1 (by omega), ax_arr_R h110])) (ht _) ((ax_ws_get h.2.2.2.1).trans (by rw [ax_cell_o h.2.2.2.2 hci])) hc h.2.2.1 hdg fun H1 locs1 hP hD hS => ?_
    have hup : ax_arr (cx_dA Γ) ad (ax_setP σ a i.toNatClampNeg (some q)) a t (ax_H σ a).2 = .inl (cx_dA Γ t, (ax_H σ a).2, .inr (.inr (.inr (.inr (va_up (fun j => (ax_P σ a j).map ad) i.toNatClampNeg (some (ad q))))))) := by
      rw [ax_arr_R h110]
      have e : (fun j => (ax_P (ax_setP σ a i.toNatClampNeg (some q)) a j).map ad) = va_up (fun j => (ax_P σ a j).map ad) i.toNatClampNeg (some (ad q)) := by
        funext j
        show (ax_up2 σ.2.2.1 a i.toNatClampNeg (some q) a j).map ad = _
        unfold ax_up2 va_up
        by_cases hj : j = i.toNatClampNeg <;> simp [hj]
      rw [e]
    rw [ax_set_arr (τ := ax_setP σ a i.toNatClampNeg (some q)) h.2.1 (by omega) rfl rfl (fun b z hb => (ax_oP σ a i.toNatClampNeg (some q)) b z (fun x => hb x.1)) hup] at hP hD
    exact w ad H1 locs1 ls h1 h2 h3 h4 ⟨hP, hD⟩ hS h7 (ax_clP h8 h10.1) (ax_lv_mono (σ := σ) (τ := ax_setP σ a i.toNatClampNeg (some q)) (Nat.le_refl (ax_z σ)) h9) (ax_st_mono (σ := σ) (τ := ax_setP σ a i.toNatClampNeg (some q)) (Nat.le_refl (ax_z σ)) h10.2.2.2)
end OKA
