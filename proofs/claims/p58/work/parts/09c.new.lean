/-! MORE ROWS: the script, longs, comparisons, Strings that are made, clones -/
def qJ (g : Int64 → AS → Option AR) : Option Value → AS → Option AR := fun v τ => match v with | some (.long i) => g i τ | _ => none
/-- the script's length, and a number of it -/
def sL (q : Nat) (sc : Nat × (Nat → Int32)) (g : Int32 → Option AR) : Option AR := if q = 5000000 then g (Int32.ofNat sc.1) else none
def sG (q : Nat) (sc : Nat × (Nat → Int32)) (i : Int32) (g : Int32 → Option AR) : Option AR := if q = 5000000 ∧ ax_ib i sc.1 then g (sc.2 i.toNatClampNeg) else none
/-- a copy of a row of bytes -/
def ax_newC (σ : AS) (a : Nat) : AS := ((fun b i => if b = ax_z σ then ax_I σ a i else ax_I σ b i), (ax_new σ 103 (ax_H σ a).2).2)
def nCl (σ : AS) (a : Nat) (g : Nat → AS → Option AR) : Option AR := if ax_z σ < 1000000 ∧ a < ax_z σ ∧ (ax_H σ a).1 = 103 ∧ (List.range (ax_H σ a).2).all (fun i => fits .byte (.int (ax_I σ a i))) = true then g (ax_z σ) (ax_newC σ a) else none
/-- a String constant's bytes into a row of bytes -/
def cpK (σ : AS) (v : Nat) (sp : Int32) (a : Nat) (dp n : Int32) (g : AS → Option AR) : Option AR :=
  if (3000026 ≤ v ∧ v < 3000045) ∧ (a < ax_z σ ∧ (ax_H σ a).1 = 103) ∧ (¬ sp < 0 ∧ ¬ dp < 0 ∧ ¬ n < 0 ∧ sp.toNatClampNeg + n.toNatClampNeg ≤ (ax_byt (v - 3000000)).length ∧ dp.toNatClampNeg + n.toNatClampNeg ≤ (ax_H σ a).2) then
    g ((fun b i => if b = a then va_cpy (fun j => (ax_byt (v - 3000000)).getD j 0) (ax_I σ a) sp.toNatClampNeg dp.toNatClampNeg n.toNatClampNeg i else ax_I σ b i), σ.2) else none
theorem ax_getD_mem {B : List Int32} {k : Nat} (h : k < B.length) : B.getD k 0 ∈ B := by
  rw [List.getD_eq_getElem?_getD, List.getElem?_eq_getElem h, Option.getD_some]
  exact List.getElem_mem h
theorem ax_vb {v : Nat} (h : 3000026 ≤ v ∧ v < 3000045) : 26 ≤ v - 3000000 ∧ v - 3000000 < 45 ∧ 3000000 + (v - 3000000) = v ∧ 1000000 ≤ v := by omega
theorem ax_byt_fits (i : Nat) (h1 : 26 ≤ i) (h2 : i < 45) (b : Int32) (hb : b ∈ ax_byt i) : fits .byte (.int b) = true := by
  have key : ∀ k : Fin 19, (ax_byts.getD (k : Nat) []).all (fun b => fits .byte (.int b)) = true := by decide +kernel
  exact List.all_eq_true.mp (key ⟨i - 26, by omega⟩) b hb
theorem ax_ws_newC {dA : Nat → ClassId} {ad : Nat → Nat} {σ : AS} {a q : Nat} (hcl : ax_cl σ) (hz : ax_z σ < 1000000) :
    ax_ws dA (fun k => if k = ax_z σ then q else ad k) (ax_newC σ a) = ax_ws dA ad σ ++ [(q, ax_cell dA (fun k => if k = ax_z σ then q else ad k) (ax_newC σ a) (ax_z σ))] := by
  unfold ax_ws
  show (List.range (ax_z σ + 1)).map _ = _
  rw [List.range_succ, List.map_append]
  congr 1
  · apply List.map_congr_left
    intro k hk
    have hk : k < ax_z σ := List.mem_range.mp hk
    have hn : k ≠ ax_z σ := Nat.ne_of_lt hk
    rw [ax_cell_cong (σ := σ) (ad := ad) (if_neg hn) (fun j => if_neg hn) (fun j => if_neg hn) (fun j => ?_)]
    · exact congrArg (fun z => (z, ax_cell dA ad σ k)) (if_neg hn)
    show (if k = ax_z σ then none else ax_P σ k j).map _ = _
    rw [if_neg hn]
    cases hp : ax_P σ k j with
    | none => rfl
    | some v =>
      have hv := hcl k j v hk hp
      show some (if v = ax_z σ then q else ad v) = some (ad v)
      rw [if_neg (by omega)]
  · show [((fun k => if k = ax_z σ then q else ad k) (ax_z σ), _)] = _
    rw [show (fun k => if k = ax_z σ then q else ad k) (ax_z σ) = q from if_pos rfl]
section OKN
variable {Γ : CX} {cc : ByteArray} {own : String} {ret : Option FieldType} {pc : Nat} {lv : List (Nat × Value)} {st : List Value} {σ : AS} {f : Option AR}
theorem ok_null (C : OKC Γ cc own ret) (hdg : decode cc pc = .ok (.aconst_null, 1)) (k : OK Γ (pc + 1) lv (.null :: st) f σ) : OK Γ pc lv st f σ :=
  OK.row k (fun _ h => ⟨trivial, h⟩) fun _ _ _ _ _ _ w => lv_null C.1 C.2.1 hdg w
theorem ok_lcmp (C : OKC Γ cc own ret) {x y : Int64} (hdg : decode cc pc = .ok (.lcmp, 1)) (k : OK Γ (pc + 1) lv (.int (lg_cmp x y) :: st) f σ) : OK Γ pc lv (.long y :: .long x :: st) f σ :=
  OK.row k (fun _ h => ⟨trivial, h.2.2⟩) fun _ _ _ _ _ _ w => W.lcmp C.1 C.2.1 hdg w
theorem ok_fcmp (C : OKC Γ cc own ret) {x y : UInt32} {op : CmpOp} (hdg : decode cc pc = .ok (.fcmp op, 1)) (k : OK Γ (pc + 1) lv (.int (Op.cmpValue (FP.fcmp x y) op) :: st) f σ) : OK Γ pc lv (.float y :: .float x :: st) f σ :=
  OK.row k (fun _ h => ⟨trivial, h.2.2⟩) fun _ _ _ _ _ _ w => lv_fcmp C.1 C.2.1 hdg w
theorem ok_dcmp (C : OKC Γ cc own ret) {x y : UInt64} {op : CmpOp} (hdg : decode cc pc = .ok (.dcmp op, 1)) (k : OK Γ (pc + 1) lv (.int (Op.cmpValue (FP.dcmp x y) op) :: st) f σ) : OK Γ pc lv (.double y :: .double x :: st) f σ :=
  OK.row k (fun _ h => ⟨trivial, h.2.2⟩) fun _ _ _ _ _ _ w => lv_dcmp C.1 C.2.1 hdg w
theorem ok_ldcSW (C : OKC Γ cc own ret) (i : Nat) {is : Nat} {text : String} (hs : ax_strs[i]? = some (own, is, text)) (hdg : decode cc pc = .ok (.ldc_w is, 3)) {f : Option AR} (k : OK Γ (pc + 3) lv (.ref (1000000 + i) :: st) f σ) : OK Γ pc lv st f σ := by
  intro r hr
  obtain ⟨m, w⟩ := k r hr
  refine ⟨m, fun ad H locs ls h1 h2 h3 h4 h5 h6 h7 h8 h9 h10 => ?_⟩
  have hw := w ad H locs ls h1 h2 h3 h4 h5 h6 h7 h8 h9 ⟨Or.inr (Nat.le_add_right _ _), h10⟩
  have h : vk_R own is text (ad (1000000 + i)) (cx_s Γ) := by have h := C.2.2.2.2.2.2.2.2.2.1.2.1 i _ hs; rw [← h4 _ (Or.inr (Nat.le_add_right _ _))] at h; exact h
  intro T hT X
  obtain ⟨t, a1, b1⟩ := hw T hT X
  exact ⟨t, X.ldcStringW C.1 C.2.2.1 (text := text) h.1 h.2 (g := F0 (cx_m Γ) pc ls (st.map (ax_cv ad))) rfl (by rw [C.2.1]; exact hdg) t a1, b1⟩
theorem ok_lreturn (C : OKC Γ cc own (some .long)) {v : Int64} (hdg : decode cc pc = .ok (.lreturn, 1)) : OK Γ pc lv [.long v] (some (.inl (some (.long v)), σ)) σ := by
  intro r hr
  cases hr
  refine ⟨⟨Nat.le_refl _, Nat.le_refl _, Nat.le_refl _⟩, fun ad H locs ls h1 h2 h3 h4 h5 h6 h7 h8 h9 h10 => ?_⟩
  obtain ⟨e1, e2, e3, e4, e5, e6, e7, -⟩ := C
  exact vx_ret (W.lret (v := v) e1 e2 e6 (fun t ht hW => ⟨ad, some (.long v), rfl, rfl, h4, ⟨by rw [ht]; exact h5.1, h5.2⟩, h6.F ht, h8, h10⟩) h6.2.2 hdg e7)
theorem ok_qJ {p2 : Nat} {g : Int64 → AS → Option AR} (h : ∀ i τ, OK Γ p2 lv (.long i :: st) (g i τ) τ) : ∀ v τ, OK Γ p2 lv (v.toList ++ st) (qJ g v τ) τ := by
  intro v τ
  rcases v with _ | v
  · exact OK.none
  · cases v <;> first | exact h _ τ | exact OK.none
theorem ok_slen (C : OKC Γ cc own ret) {q : Nat} {sc : Nat × (Nat → Int32)} (hsc : ax_scr (cx_ad Γ) = sc) (hdg : decode cc pc = .ok (.arraylength, 1)) {g : Int32 → Option AR} (k : ∀ n, OK Γ (pc + 1) lv (.int n :: st) (g n) σ) : OK Γ pc lv (.ref q :: st) (sL q sc g) σ := by
  intro r hr
  unfold sL at hr
  split at hr
  case isFalse => cases hr
  case isTrue hw =>
  subst hw
  subst hsc
  obtain ⟨m, x⟩ := k _ r hr
  refine ⟨m, fun ad H locs ls h1 h2 h3 h4 h5 h6 h7 h8 h9 h10 => ?_⟩
  obtain ⟨e1, e2, e3, e4, e5, e6, e7, e8, e9, e10, e11, e12⟩ := C
  obtain ⟨hX, hl, hb⟩ := e10.1.2.2.2.2.2.2.2.2.2
  have e : (Value.ref 5000000 :: st).map (ax_cv ad) = .ref (cx_ad Γ 5000000) :: st.map (ax_cv ad) := by
    show Value.ref (ad 5000000) :: _ = _
    rw [h4 _ (Or.inr (by decide))]
  rw [e]
  exact va_slen e1 e2 hX hl (fun z => hb (e12 _ z)) h6 hdg (x ad H locs ls h1 h2 h3 h4 h5 h6 h7 h8 h9 ⟨trivial, h10.2⟩)
theorem ok_sld (C : OKC Γ cc own ret) {q : Nat} {i : Int32} {sc : Nat × (Nat → Int32)} (hsc : ax_scr (cx_ad Γ) = sc) (hdg : decode cc pc = .ok (.iaload, 1)) {g : Int32 → Option AR} (k : ∀ n, OK Γ (pc + 1) lv (.int n :: st) (g n) σ) : OK Γ pc lv (.int i :: .ref q :: st) (sG q sc i g) σ := by
  intro r hr
  unfold sG at hr
  split at hr
  case isFalse => cases hr
  case isTrue hw =>
  obtain ⟨hw, hi⟩ := hw
  subst hw
  subst hsc
  obtain ⟨m, x⟩ := k _ r hr
  refine ⟨m, fun ad H locs ls h1 h2 h3 h4 h5 h6 h7 h8 h9 h10 => ?_⟩
  obtain ⟨e1, e2, e3, e4, e5, e6, e7, e8, e9, e10, e11, e12⟩ := C
  obtain ⟨hX, hl, hb⟩ := e10.1.2.2.2.2.2.2.2.2.2
  have e : (Value.int i :: Value.ref 5000000 :: st).map (ax_cv ad) = .int i :: .ref (cx_ad Γ 5000000) :: st.map (ax_cv ad) := by
    show Value.int i :: Value.ref (ad 5000000) :: _ = _
    rw [h4 _ (Or.inr (by decide))]
  rw [e]
  exact va_sld e1 e2 hX hl (fun z => hb (e12 _ z)) h6 hi hdg (x ad H locs ls h1 h2 h3 h4 h5 h6 h7 h8 h9 ⟨trivial, h10.2.2⟩)
/-- a row of bytes is cloned -/
theorem ok_cloneB (C : OKC Γ cc own ret) {index ix : Nat} {a : Nat} (L1 : Cond.methodLink own index ⟨"[B", "clone", "()Ljava/lang/Object;"⟩ ∈ ax_ALL) (L2 : Cond.sameMethod "[B" "java/lang/Object" "clone" "()Ljava/lang/Object;" ∈ ax_ALL) (L3 : Cond.native ⟨"java/lang/Object", "clone", "()Ljava/lang/Object;"⟩ ∈ ax_ALL) (L4 : Cond.instanceMethod ⟨"java/lang/Object", "clone", "()Ljava/lang/Object;"⟩ ∈ ax_ALL)
    (L5 : Cond.selects "[B" ⟨"[B", "clone", "()Ljava/lang/Object;"⟩ ⟨"java/lang/Object", "clone", "()Ljava/lang/Object;"⟩ ∈ ax_ALL) (L6 : Cond.classLink own ix "[B" ∈ ax_ALL) (hfr : 1 ≤ cx_fr Γ) (hlo : (st.map fun v => v.category).sum + 14 ≤ cx_lo Γ) (hdg : decode cc pc = .ok (.invokevirtual index, 3)) (hdc : decode cc (pc + 3) = .ok (.checkcast ix, 3))
    {g : Nat → AS → Option AR} (k : ∀ q τ, OK Γ (pc + 3 + 3) lv (.ref q :: st) (g q τ) τ) : OK Γ pc lv (.ref a :: st) (nCl σ a g) σ := by
  intro r hr
  unfold nCl at hr
  split at hr
  case isFalse => cases hr
  case isTrue hz =>
    obtain ⟨hz, ha, h103, hfit⟩ := hz
    obtain ⟨m, w⟩ := k _ _ r hr
    have m1 : ax_nc σ + 1 ≤ ax_nc r.2 := m.1
    have m2 : ax_ns σ + (ax_H σ a).2 ≤ ax_ns r.2 := m.2.1
    have m3 : ax_z σ + 1 ≤ ax_z r.2 := m.2.2
    refine ⟨⟨by omega, by omega, by omega⟩, fun ad H locs ls h1 h2 h3 h4 h5 h6 h7 h8 h9 h10 => ?_⟩
    have hnm : (cx_s Γ).vm.findClass "[B" = some (cx_dA Γ 103) := (C.2.2.2.2.1.2 3 _ (rfl : (ax_ty (cx_dA Γ))[3]? = some (cx_dA Γ 103, .byte))).2
    have hcell : ax_cell (cx_dA Γ) ad σ a = .inl (cx_dA Γ 103, (ax_H σ a).2, .inl (ax_I σ a)) := by rw [ax_cell_a h103 (by decide), ax_arr_I (by decide) (by decide) (by decide)]
    refine va_clone (ty := .byte) C.1 C.2.1 (C.2.2.2.2.2.2.2.1.trans h7.1.symm) C.2.2.1 (C.2.2.2.1 _ L1) (C.2.2.2.1 _ L2) (C.2.2.2.1 _ L3) (C.2.2.2.1 _ L4) (C.2.2.2.1 _ L5) C.2.2.2.2.2.2.2.2.2.1.2.2.2.2.1.2.1 C.2.2.2.2.1 h5.1 h5.2 h6 cx_new a 3 ((ax_ws_get ha).trans (by rw [hcell])) rfl hnm (fun i v hv => ?_) hfr (by rw [ax_sum]; exact hlo) (by show _ ≤ ax_nc r.2 - _; omega) (by show _ ≤ ax_ns r.2 - _; dsimp only; omega) hdg fun q H1 hK hP hD hS => ?_
    · obtain ⟨hi, e⟩ := Array.getElem?_eq_some_iff.mp hv
      have hi' : i < (ax_H σ a).2 := by
        have := hi
        rw [show (vp_cell (cx_dA Γ 103) ((ax_H σ a).2, .inl (ax_I σ a))).slots.size = (ax_H σ a).2 from arrV_size _ _ _] at this
        exact this
      have e2 : (vp_cell (cx_dA Γ 103) ((ax_H σ a).2, .inl (ax_I σ a))).slots[i]? = some (.int (ax_I σ a i)) := arrV_read _ _ hi'
      rw [e2] at hv
      cases hv
      exact List.all_eq_true.mp hfit i (List.mem_range.mpr hi')
    have hcell2 : ax_cell (cx_dA Γ) (fun k => if k = ax_z σ then q else ad k) (ax_newC σ a) (ax_z σ) = .inl (cx_dA Γ 103, (ax_H σ a).2, .inl (ax_I σ a)) := by
      have hH : ax_H (ax_newC σ a) (ax_z σ) = (103, (ax_H σ a).2) := if_pos rfl
      rw [ax_cell_a (t := 103) (congrArg Prod.fst hH) (by decide), congrArg Prod.snd hH, ax_arr_I (by decide) (by decide) (by decide)]
      exact congrArg (fun z => Sum.inl (cx_dA Γ 103, (ax_H σ a).2, Sum.inl z)) (funext fun j => if_pos rfl)
    have had : ∀ k, k < ax_z σ ∨ 1000000 ≤ k → (fun k => if k = ax_z σ then q else ad k) k = ad k := fun k hk => if_neg (by omega)
    have hPN := hP
    have hDN := hD
    rw [← hcell2, ← ax_ws_newC h8 hz] at hPN hDN
    have hw := w (fun k => if k = ax_z σ then q else ad k) H1 locs ls (Nat.le_succ_of_le h1) (Nat.le_trans h2 (Nat.le_add_right _ _)) (Nat.le_succ_of_le h3)
      (fun k hk => (had k (hk.imp (fun z => Nat.lt_of_lt_of_le z h3) id)).trans (h4 k hk)) ⟨hPN, hDN⟩ hS (by rw [ax_lv_cong had h9]; exact h7) (ax_cl_new (t := 103) (n := (ax_H σ a).2) h8) (ax_lv_mono (σ := σ) (τ := ax_newC σ a) (Nat.le_succ _) h9) ⟨Or.inl (Nat.lt_succ_self _), ax_st_mono (σ := σ) (τ := ax_newC σ a) (Nat.le_succ _) h10.2⟩
    rw [List.map_cons, ax_st_cong had h10.2] at hw
    have e0 : ax_cv (fun k => if k = ax_z σ then q else ad k) (.ref (ax_z σ)) = .ref q := congrArg Value.ref (if_pos rfl)
    rw [e0] at hw
    have ea : ax_nc (ax_newC σ a) - ax_nc (cx_w Γ) = ax_nc σ - ax_nc (cx_w Γ) + 1 := by show ax_nc σ + 1 - _ = _; omega
    have eb : ax_ns (ax_newC σ a) - ax_ns (cx_w Γ) = ax_ns σ - ax_ns (cx_w Γ) + (ax_H σ a).2 := by show ax_ns σ + (ax_H σ a).2 - _ = _; omega
    rw [ea, eb] at hw
    refine va_castA C.1 C.2.1 C.2.2.1 (C.2.2.2.1 _ L6) hPN (ax_z σ) (cA := cx_dA Γ 103) (x := ((ax_H σ a).2, .inl (ax_I σ a))) ?_ hnm hdc hw
    rw [ax_ws_get (show ax_z σ < ax_z (ax_newC σ a) from Nat.lt_succ_self _), hcell2]
    exact congrArg (fun z => some (z, _)) (if_pos rfl)
/-- a String constant's bytes are copied -/
theorem ok_copyK (C : OKC Γ cc own ret) {v a index : Nat} {sp dp n : Int32} (L : ax_CL own index) (hfr : 1 ≤ cx_fr Γ) (hlo : (st.map fun v => v.category).sum + (nativeFrameWords "java/lang/System" "arraycopy" 5 + 11) ≤ cx_lo Γ) (hdg : decode cc pc = .ok (.invokestatic index, 3)) {g : AS → Option AR} (k : ∀ τ, OK Γ (pc + 3) lv st (g τ) τ) :
    OK Γ pc lv (.int n :: .int dp :: .ref a :: .int sp :: .ref v :: st) (cpK σ v sp a dp n g) σ := by
  intro r hr
  unfold cpK at hr
  generalize hgi : v - 3000000 = vi at hr
  split at hr
  case isFalse => cases hr
  case isTrue h =>
    obtain ⟨hw, ⟨z3, z4⟩, n1, n2, n3, n4, n5⟩ := h
    obtain ⟨m, w⟩ := k _ r hr
    refine ⟨m, fun ad H locs ls h1 h2 h3 h4 h5 h6 h7 h8 h9 h10 => ?_⟩
    obtain ⟨e1, e2, e3, e4, e5, e6, e7, e8, e9, e10, e11, e12⟩ := C
    obtain ⟨v1, v2, v3, v4⟩ := ax_vb hw
    rw [hgi] at v1 v2 v3
    have hs := e10.1.2.2.1 vi v1 v2
    rw [v3] at hs
    have hv := hs.2.2.2.narrow e12
    have e : (Value.int n :: .int dp :: .ref a :: .int sp :: .ref v :: st).map (ax_cv ad) = .int n :: .int dp :: .ref (ad a) :: .int sp :: .ref (cx_ad Γ v) :: st.map (ax_cv ad) := by
      show _ :: _ :: _ :: _ :: Value.ref (ad v) :: _ = _
      rw [h4 _ (Or.inr v4)]
      rfl
    rw [e]
    refine vk_copyt e1 e2 (e8.trans h7.1.symm) e3 (e4 _ L.1) (e4 _ L.2.1) (e4 _ L.2.2.1) (e4 _ L.2.2.2) e5 h5.1 h5.2 h6 hv a 3 (g := ax_I σ a) (n1 := (ax_H σ a).2)
      ((ax_ws_get z3).trans (by rw [ax_cell_a z4 (by decide), ax_arr_I (by decide) (by decide) (by decide)])) rfl n1 n2 n3 n4 n5 (fun i hi => ?_) hfr (by rw [ax_sum]; exact hlo) hdg fun H1 locs1 hP hD hS => ?_
    · have hlt : sp.toNatClampNeg + i < (ax_byt vi).length := Nat.lt_of_lt_of_le (Nat.add_lt_add_left hi _) n4
      have hb : (ax_byt vi).getD (sp.toNatClampNeg + i) 0 ∈ ax_byt vi := ax_getD_mem hlt
      exact ax_byt_fits vi v1 v2 _ hb
    · rw [ax_set_arr (τ := ((fun b i => if b = a then va_cpy (fun j => (ax_byt vi).getD j 0) (ax_I σ a) sp.toNatClampNeg dp.toNatClampNeg n.toNatClampNeg i else ax_I σ b i), σ.2)) z4 (by decide) rfl rfl (fun b z hb => ⟨if_neg hb, rfl, rfl⟩) (by rw [ax_arr_I (by decide) (by decide) (by decide)]; exact congrArg (fun q => Sum.inl (cx_dA Γ 103, (ax_H σ a).2, Sum.inl q)) (funext fun z => if_pos rfl))] at hP hD
      exact w ad H1 locs1 ls h1 h2 h3 h4 ⟨hP, hD⟩ hS h7 h8 (ax_lv_mono (σ := σ) (τ := ((fun b i => if b = a then va_cpy (fun j => (ax_byt vi).getD j 0) (ax_I σ a) sp.toNatClampNeg dp.toNatClampNeg n.toNatClampNeg i else ax_I σ b i), σ.2)) (Nat.le_refl (ax_z σ)) h9) (ax_st_mono (σ := σ) (τ := ((fun b i => if b = a then va_cpy (fun j => (ax_byt vi).getD j 0) (ax_I σ a) sp.toNatClampNeg dp.toNatClampNeg n.toNatClampNeg i else ax_I σ b i), σ.2)) (Nat.le_refl (ax_z σ)) h10.2.2.2.2.2)
/-- a method that the receiver's class overrides -/
def ax_U2 (own : String) (index : Nat) (C0 : String) (x y : MethodName) (bytes : ByteArray) (maxL : Nat) (ret : Option FieldType) (bx : ByteArray) (mx : Nat) (rx : Option FieldType) (n : Nat) : Prop :=
  (Cond.methodLink own index x ∈ ax_ALL ∧ Cond.initialized y.cls ∈ ax_ALL ∧ Cond.code y bytes maxL ret ∈ ax_ALL) ∧ (x.cls ≠ "java/lang/invoke/MethodHandle" ∧ x.cls ≠ "java/lang/invoke/VarHandle" ∧ (parseMethodDescriptor x.desc).map (fun d => d.parameters.length) = some n) ∧ Cond.instanceMethod x ∈ ax_ALL ∧ Cond.code x bx mx rx ∈ ax_ALL ∧ Cond.sameMethod x.cls x.cls x.name x.desc ∈ ax_ALL ∧ Cond.selects C0 x y ∈ ax_ALL ∧ Cond.instanceMethod y ∈ ax_ALL
theorem ok_callU2 (C : OKC Γ cc own ret) (T : ∀ z ∈ (cx_c Γ).exceptionTable.toList, False) (As : List Value) {b ci index maxL n fr' lo' : Nat} {x y : MethodName} {bytes : ByteArray} {ret' : Option FieldType} {bx : ByteArray} {mx : Nat} {rx : Option FieldType} {F : AS → Option AR} {C0 : String} {T0 : u_T} {N0 : Nat}
    (hM : Ct (cx_l Γ) (cx_D Γ) (cx_dA Γ) (cx_B Γ) y (.code y bytes maxL ret' :: ax_ALL) fr' lo' (.ref b :: As) F) (L : ax_U2 own index C0 x y bytes maxL ret' bx mx rx n) (hc : vwCl[ci]? = some (C0, T0, N0)) (hci : ci < 100) (hn : As.length = n)
    (hroom : fr' + 1 ≤ cx_fr Γ ∧ 8 + (maxL + 11) + lo' ≤ cx_lo Γ) (hst : (st.map fun v => v.category).sum ≤ 8) (hdg : decode cc pc = .ok (.invokevirtual index, 3)) {g : Option Value → AS → Option AR}
    (k : ∀ v τ, OK Γ (pc + 3) lv (v.toList ++ st) (g v τ) τ) : OK Γ pc lv (As.reverse ++ .ref b :: st) (cV σ b ci (F σ) g) σ := by
  by_cases h : b < ax_z σ ∧ (ax_H σ b).1 = ci
  case neg =>
    intro r hr
    unfold cV at hr
    rw [if_neg h] at hr
    cases hr
  unfold cV
  rw [if_pos h]
  refine ok_ran (as := .ref b :: As) (rest := st) C T (fun r r1 h1 ad H locs ls hls had h5 h6 h8 hs hf => ?_) (fun hs => (ax_st_split hs).2.2) k
  have hsa : ax_st σ (.ref b :: As) := ⟨(ax_st_split hs).2.1, ax_st_rev (ax_st_split hs).1⟩
  have w1 := C.2.2.2.1
  obtain ⟨⟨l1, l2, l3⟩, ⟨m1, m2, m3⟩, l4, l5, l6, l7, l8⟩ := L
  have hcw : va_CU (cx_R Γ r) (cx_s Γ) (cx_a Γ) own C0 x.cls index x y bytes maxL ret' (.code y bytes maxL ret' :: ax_ALL) { frames := fr', cells := ax_nc r1.2 - ax_nc σ, slots := ax_ns r1.2 - ax_ns σ, locals := lo' } (ax_nc r1.2 - ax_nc σ) (ax_ns r1.2 - ax_ns σ) n :=
    ⟨⟨rfl, rfl, hroom.1, hroom.2, pay_in w1 (ax_goodC l3), List.mem_cons_self⟩, w1 _ l3, w1 _ l2, ⟨m1, m2⟩, fun sig h => by
      rw [h] at m3
      exact (Option.some.inj m3).symm, w1 _ l1, w1 _ l6, va_Decl.of (w1 _ l4) (w1 _ l5), w1 _ l7, w1 _ l8⟩
  have hr := vx_runU (rest := st.map (ax_cv ad)) (g := F0 (cx_m Γ) pc ls ((As.reverse ++ .ref b :: st).map (ax_cv ad))) (ax_fix C) (hM ad σ r1 h1 H.size) (C := C0) (b := ad b) (As := As.map (ax_cv ad)) (R := cx_R Γ r) (H := H) (locs := locs) (cells := ax_nc σ - ax_nc (cx_w Γ)) (slots := ax_ns σ - ax_ns (cx_w Γ)) (e := cx_e Γ) (below := cx_below Γ) (meth := cx_meth Γ) (n := n)
    hcw
    ⟨ax_Pc.blind, by
      obtain ⟨cell, x1, x2, x3⟩ := va_recv C.2.2.2.2.1 h5.1 hc (q0 := b) (fs := ax_flds ad σ b (ax_tags ci) 0) ((ax_ws_get h.1).trans (by rw [ax_cell_o h.2 hci]))
      exact ⟨cell, x1, x2, x3⟩, fun U hU hW => ax_pre C h5 h6 h8 hsa had U hU hW⟩ rfl (by rw [List.length_map]; exact hn) hls (by rw [List.map_append, List.map_reverse]; rfl) (ax_hd st hst _ _ _ _) hdg hf
  exact hr
def nM6 (σ : AS) (n k : Int32) (g : Nat → AS → Option AR) : Option AR := if n = 8 ∧ k = 6 ∧ ax_z σ < 900000 then g (ax_z σ) (ax_newM σ 8 6) else none
theorem ok_newM6 (C : OKC Γ cc own ret) {index : Nat} {n k : Int32} (Lk : Cond.classLink own index "[[I" ∈ ax_ALL) (harr : Cond.arrayClass .int ∈ ax_ALL) (hdg : decode cc pc = .ok (.multianewarray index 2, 4)) {g : Nat → AS → Option AR} (kk : ∀ q τ, OK Γ (pc + 4) lv (.ref q :: st) (g q τ) τ) : OK Γ pc lv (.int k :: .int n :: st) (nM6 σ n k g) σ := by
  intro r hr
  unfold nM6 at hr
  split at hr
  case isFalse => cases hr
  case isTrue hz =>
    obtain ⟨rfl, rfl, hz⟩ := hz
    obtain ⟨m, w⟩ := kk _ _ r hr
    have m1 : ax_nc σ + 1 + 8 ≤ ax_nc r.2 := m.1
    have m2 : ax_ns σ + 8 + 8 * 6 ≤ ax_ns r.2 := m.2.1
    have m3 : ax_z σ + 1 + 8 ≤ ax_z r.2 := m.2.2
    refine ⟨⟨by omega, by omega, by omega⟩, fun ad H locs ls h1 h2 h3 h4 h5 h6 h7 h8 h9 h10 => ?_⟩
    refine va_mna (X := ax_ws (cx_dA Γ) ad σ) (L := []) (f := fun _ => .inl (0, 0, .inl (fun _ => 0))) (ty := .int) (cy := cx_dA Γ 100) (N' := 8) (K' := 6) (z := (6, .inl (fun _ => 0))) C.1 C.2.1 C.2.2.1 (C.2.2.2.1 _ Lk) C.2.2.2.2.2.2.2.2.2.1.2.2.2.2.1.1 (C.2.2.2.1 _ harr) ((C.2.2.2.2.1.2 0 _ rfl).2) C.2.2.2.2.1 (by show va_P _ _ (ax_ws _ _ _ ++ []) _; rw [List.append_nil]; exact h5.1) (by show va_D _ (ax_ws _ _ _ ++ []); rw [List.append_nil]; exact h5.2) h6 cx_new (by decide) (by decide) (by decide) (by decide) (by decide) (by decide) (by decide) rfl rfl (by show _ ≤ ax_nc r.2 - _; omega) (by show _ ≤ ax_ns r.2 - _; omega) (fun c => by rw [vp_cell_i]; exact ax_inner c 6) hdg fun q rr cA H1 hinj hout hK hP hD hS => ?_
    have e1 := (C.2.2.2.2.1.2 6 (cx_dA Γ 110, .array .int) rfl).2
    have e2 := (hK.2 (ax_ty (cx_dA Γ)).length (cA, .array .int) (by rw [List.getElem?_append_right (Nat.le_refl _), Nat.sub_self]; rfl)).2
    have hcA : cA = cx_dA Γ 110 := Option.some.inj (e2.symm.trans e1)
    subst hcA
    have hpl : va_pl ([] ++ (List.range 8).map rr) (vr_up (fun _ => .inl (0, 0, .inl (fun _ => 0))) ((List.range 8).map rr) (.inl (cx_dA Γ 100, ((6, .inl (fun _ => 0)) : vp_A)))) = (List.range 8).map (fun i => (rr i, .inl (cx_dA Γ 100, 6, .inl (fun _ => 0)))) := by
      unfold va_pl
      rw [List.nil_append, List.map_map]
      apply List.map_congr_left
      intro i hi
      show (rr i, vr_up _ _ _ (rr i)) = _
      rw [vr_up_in (List.mem_map_of_mem hi)]
    rw [hpl] at hP hD
    have hws := ax_ws_newM (dA := cx_dA Γ) (ad := ad) (n := 8) (k := 6) (q := q) (r := rr) h8 hz (by decide)
    rw [← hws] at hP hD
    have had : ∀ k, k < ax_z σ ∨ 1000000 ≤ k → (fun a => if a = ax_z σ then q else if ax_z σ ≤ a ∧ a ≤ ax_z σ + 8 then rr (a - (ax_z σ + 1)) else ad a) k = ad k := fun k hk => (if_neg (by omega)).trans (if_neg (by omega))
    have hw := w (fun a => if a = ax_z σ then q else if ax_z σ ≤ a ∧ a ≤ ax_z σ + 8 then rr (a - (ax_z σ + 1)) else ad a) H1 locs ls (by show _ ≤ ax_nc σ + 1 + 8; omega) (by show _ ≤ ax_ns σ + 8 + 8 * 6; omega) (by show _ ≤ ax_z σ + 1 + 8; omega)
      (fun k hk => (had k (hk.imp (fun z => Nat.lt_of_lt_of_le z h3) id)).trans (h4 k hk)) ⟨hP, hD⟩ hS (by rw [ax_lv_cong had h9]; exact h7) (ax_cl_newM h8) (ax_lv_mono (σ := σ) (τ := ax_newM σ 8 6) (by show _ ≤ ax_z σ + 1 + 8; omega) h9) ⟨Or.inl (by show _ < ax_z σ + 1 + 8; omega), ax_st_mono (σ := σ) (τ := ax_newM σ 8 6) (by show _ ≤ ax_z σ + 1 + 8; omega) h10.2.2⟩
    rw [List.map_cons, ax_st_cong had h10.2.2] at hw
    have e0 : ax_cv (fun a => if a = ax_z σ then q else if ax_z σ ≤ a ∧ a ≤ ax_z σ + 8 then rr (a - (ax_z σ + 1)) else ad a) (.ref (ax_z σ)) = .ref q := congrArg Value.ref (if_pos rfl)
    rw [e0] at hw
    have ea : ax_nc (ax_newM σ 8 6) - ax_nc (cx_w Γ) = ax_nc σ - ax_nc (cx_w Γ) + (1 + 8) := by show ax_nc σ + 1 + 8 - _ = _; omega
    have eb : ax_ns (ax_newM σ 8 6) - ax_ns (cx_w Γ) = ax_ns σ - ax_ns (cx_w Γ) + 8 + 8 * 6 := by show ax_ns σ + 8 + 8 * 6 - _ = _; omega
    rw [ea, eb] at hw
    exact hw
def nM600 (σ : AS) (n k : Int32) (g : Nat → AS → Option AR) : Option AR := if n = 8 ∧ k = 600 ∧ ax_z σ < 900000 then g (ax_z σ) (ax_newM σ 8 600) else none
theorem ok_newM600 (C : OKC Γ cc own ret) {index : Nat} {n k : Int32} (Lk : Cond.classLink own index "[[I" ∈ ax_ALL) (harr : Cond.arrayClass .int ∈ ax_ALL) (hdg : decode cc pc = .ok (.multianewarray index 2, 4)) {g : Nat → AS → Option AR} (kk : ∀ q τ, OK Γ (pc + 4) lv (.ref q :: st) (g q τ) τ) : OK Γ pc lv (.int k :: .int n :: st) (nM600 σ n k g) σ := by
  intro r hr
  unfold nM600 at hr
  split at hr
  case isFalse => cases hr
  case isTrue hz =>
    obtain ⟨rfl, rfl, hz⟩ := hz
    obtain ⟨m, w⟩ := kk _ _ r hr
    have m1 : ax_nc σ + 1 + 8 ≤ ax_nc r.2 := m.1
    have m2 : ax_ns σ + 8 + 8 * 600 ≤ ax_ns r.2 := m.2.1
    have m3 : ax_z σ + 1 + 8 ≤ ax_z r.2 := m.2.2
    refine ⟨⟨by omega, by omega, by omega⟩, fun ad H locs ls h1 h2 h3 h4 h5 h6 h7 h8 h9 h10 => ?_⟩
    refine va_mna (X := ax_ws (cx_dA Γ) ad σ) (L := []) (f := fun _ => .inl (0, 0, .inl (fun _ => 0))) (ty := .int) (cy := cx_dA Γ 100) (N' := 8) (K' := 600) (z := (600, .inl (fun _ => 0))) C.1 C.2.1 C.2.2.1 (C.2.2.2.1 _ Lk) C.2.2.2.2.2.2.2.2.2.1.2.2.2.2.1.1 (C.2.2.2.1 _ harr) ((C.2.2.2.2.1.2 0 _ rfl).2) C.2.2.2.2.1 (by show va_P _ _ (ax_ws _ _ _ ++ []) _; rw [List.append_nil]; exact h5.1) (by show va_D _ (ax_ws _ _ _ ++ []); rw [List.append_nil]; exact h5.2) h6 cx_new (by decide) (by decide) (by decide) (by decide) (by decide) (by decide) (by decide) rfl rfl (by show _ ≤ ax_nc r.2 - _; omega) (by show _ ≤ ax_ns r.2 - _; omega) (fun c => by rw [vp_cell_i]; exact ax_inner c 600) hdg fun q rr cA H1 hinj hout hK hP hD hS => ?_
    have e1 := (C.2.2.2.2.1.2 6 (cx_dA Γ 110, .array .int) rfl).2
    have e2 := (hK.2 (ax_ty (cx_dA Γ)).length (cA, .array .int) (by rw [List.getElem?_append_right (Nat.le_refl _), Nat.sub_self]; rfl)).2
    have hcA : cA = cx_dA Γ 110 := Option.some.inj (e2.symm.trans e1)
    subst hcA
    have hpl : va_pl ([] ++ (List.range 8).map rr) (vr_up (fun _ => .inl (0, 0, .inl (fun _ => 0))) ((List.range 8).map rr) (.inl (cx_dA Γ 100, ((600, .inl (fun _ => 0)) : vp_A)))) = (List.range 8).map (fun i => (rr i, .inl (cx_dA Γ 100, 600, .inl (fun _ => 0)))) := by
      unfold va_pl
      rw [List.nil_append, List.map_map]
      apply List.map_congr_left
      intro i hi
      show (rr i, vr_up _ _ _ (rr i)) = _
      rw [vr_up_in (List.mem_map_of_mem hi)]
    rw [hpl] at hP hD
    have hws := ax_ws_newM (dA := cx_dA Γ) (ad := ad) (n := 8) (k := 600) (q := q) (r := rr) h8 hz (by decide)
    rw [← hws] at hP hD
    have had : ∀ k, k < ax_z σ ∨ 1000000 ≤ k → (fun a => if a = ax_z σ then q else if ax_z σ ≤ a ∧ a ≤ ax_z σ + 8 then rr (a - (ax_z σ + 1)) else ad a) k = ad k := fun k hk => (if_neg (by omega)).trans (if_neg (by omega))
    have hw := w (fun a => if a = ax_z σ then q else if ax_z σ ≤ a ∧ a ≤ ax_z σ + 8 then rr (a - (ax_z σ + 1)) else ad a) H1 locs ls (by show _ ≤ ax_nc σ + 1 + 8; omega) (by show _ ≤ ax_ns σ + 8 + 8 * 600; omega) (by show _ ≤ ax_z σ + 1 + 8; omega)
      (fun k hk => (had k (hk.imp (fun z => Nat.lt_of_lt_of_le z h3) id)).trans (h4 k hk)) ⟨hP, hD⟩ hS (by rw [ax_lv_cong had h9]; exact h7) (ax_cl_newM h8) (ax_lv_mono (σ := σ) (τ := ax_newM σ 8 600) (by show _ ≤ ax_z σ + 1 + 8; omega) h9) ⟨Or.inl (by show _ < ax_z σ + 1 + 8; omega), ax_st_mono (σ := σ) (τ := ax_newM σ 8 600) (by show _ ≤ ax_z σ + 1 + 8; omega) h10.2.2⟩
    rw [List.map_cons, ax_st_cong had h10.2.2] at hw
    have e0 : ax_cv (fun a => if a = ax_z σ then q else if ax_z σ ≤ a ∧ a ≤ ax_z σ + 8 then rr (a - (ax_z σ + 1)) else ad a) (.ref (ax_z σ)) = .ref q := congrArg Value.ref (if_pos rfl)
    rw [e0] at hw
    have ea : ax_nc (ax_newM σ 8 600) - ax_nc (cx_w Γ) = ax_nc σ - ax_nc (cx_w Γ) + (1 + 8) := by show ax_nc σ + 1 + 8 - _ = _; omega
    have eb : ax_ns (ax_newM σ 8 600) - ax_ns (cx_w Γ) = ax_ns σ - ax_ns (cx_w Γ) + 8 + 8 * 600 := by show ax_ns σ + 8 + 8 * 600 - _ = _; omega
    rw [ea, eb] at hw
    exact hw
/-- a private field of a nest mate -/
def ax_FRN (own : String) (index ci j t : Nat) : Prop :=
  ∃ (C0 : String) (T : u_T) (N : Nat) (host : String), vwCl[ci]? = some (C0, T, N) ∧ j < N ∧ ci < 100 ∧ (ax_tags ci)[j]? = some t ∧ (∀ w ∈ u_ws C0 T N, w ∈ ax_ALL) ∧ (own, index, (T j).1, (T j).2.1, (T j).2.2.1, host) ∈ ax_fnests
def ax_FLN (own : String) (index ci j t : Nat) (ty : FieldType) (fin : Bool) : Prop :=
  ∃ (C0 : String) (T : u_T) (N : Nat) (ty0 : Nat → FieldType) (host : String), vwCl[ci]? = some (C0, T, N) ∧ j < N ∧ ci < 100 ∧ (ax_tags ci).length = N ∧ (ax_tags ci)[j]? = some t ∧ (∀ w ∈ u_ws C0 T N, w ∈ ax_ALL) ∧ (own, index, (T j).1, (T j).2.1, (T j).2.2.1, host) ∈ ax_fnests ∧ (∀ k, k < N → parseFieldDescriptor (T k).2.2.1 = some (ty0 k)) ∧ (∀ a, a < N → ∀ b, b < N → a ≠ b → (T a).2.1 ≠ (T b).2.1) ∧ (T j).2.2.2 = fin ∧ (fin = true → (T j).1 = own) ∧ ty0 j = ty
theorem ok_getNI (C : OKC Γ cc own ret) {index ci j a : Nat} (L : ax_FRN own index ci j 0) (hdg : decode cc pc = .ok (.getfield index, 3)) {g : Int32 → Option AR} (k : ∀ v, OK Γ (pc + 3) lv (.int v :: st) (g v) σ) : OK Γ pc lv (.ref a :: st) (gI σ a ci j g) σ := by
  intro r hr
  unfold gI at hr
  split at hr
  case isFalse => cases hr
  case isTrue h =>
    obtain ⟨C0, T, N, host, l1, l2, l3, l5, l6, l7⟩ := L
    obtain ⟨m, w⟩ := k _ r hr
    refine ⟨m, fun ad H locs ls h1 h2 h3 h4 h5 h6 h7 h8 h9 h10 => ?_⟩
    have hg := ax_flds_get (ad := ad) (σ := σ) (k := a) (ax_tags ci) 0 j 0 l5
    rw [Nat.zero_add] at hg
    exact va_getN C.1 C.2.1 C.2.2.2.1 l6 C.2.2.1 C.2.2.2.2.1 h5.1 a ((ax_ws_get h.1).trans (by rw [ax_cell_o h.2 l3])) l1 j l2 (va_Nw.use rfl (C.2.2.2.2.2.2.2.2.2.1.2.2.2.2.1.2.2 _ l7)) (fun _ q => q) hg hdg (w ad H locs ls h1 h2 h3 h4 h5 h6 h7 h8 h9 ⟨trivial, h10.2⟩)
theorem ok_getNR (C : OKC Γ cc own ret) {index ci j a : Nat} (L : ax_FRN own index ci j 2) (hdg : decode cc pc = .ok (.getfield index, 3)) {g : Nat → Option AR} (k : ∀ q, OK Γ (pc + 3) lv (.ref q :: st) (g q) σ) : OK Γ pc lv (.ref a :: st) (gR σ a ci j g) σ := by
  intro r hr
  unfold gR at hr
  split at hr
  case isFalse => cases hr
  case isTrue h =>
    split at hr
    case h_2 => cases hr
    case h_1 q hq =>
      obtain ⟨C0, T, N, host, l1, l2, l3, l5, l6, l7⟩ := L
      obtain ⟨m, w⟩ := k _ r hr
      refine ⟨m, fun ad H locs ls h1 h2 h3 h4 h5 h6 h7 h8 h9 h10 => ?_⟩
      have hg := ax_flds_get (ad := ad) (σ := σ) (k := a) (ax_tags ci) 0 j 2 l5
      rw [Nat.zero_add, hq] at hg
      exact va_getN C.1 C.2.1 C.2.2.2.1 l6 C.2.2.1 C.2.2.2.2.1 h5.1 a ((ax_ws_get h.1).trans (by rw [ax_cell_o h.2 l3])) l1 j l2 (va_Nw.use rfl (C.2.2.2.2.2.2.2.2.2.1.2.2.2.2.1.2.2 _ l7)) (fun _ q => q) hg hdg (w ad H locs ls h1 h2 h3 h4 h5 h6 h7 h8 h9 ⟨h8 a j q h.1 hq, h10.2⟩)
theorem ok_putNI (C : OKC Γ cc own ret) {index ci j a : Nat} {v : Int32} (L : ax_FLN own index ci j 0 .int false) (hdg : decode cc pc = .ok (.putfield index, 3)) {g : AS → Option AR} (k : ∀ τ, τ = ax_setI σ a j v → OK Γ (pc + 3) lv st (g τ) τ) : OK Γ pc lv (.int v :: .ref a :: st) (sI σ a ci j v g) σ := by
  intro r hr
  unfold sI at hr
  split at hr
  case isFalse => cases hr
  case isTrue h =>
    obtain ⟨C0, T, N, ty0, host, l1, l2, l3, l4, l5, l6, l7, l8, l9, hfin, hdec, l12⟩ := L
    obtain ⟨m, w⟩ := k _ rfl r hr
    refine ⟨m, fun ad H locs ls h1 h2 h3 h4 h5 h6 h7 h8 h9 h10 => ?_⟩
    have hd := l8 j l2
    rw [l12] at hd
    refine va_putN C.1 C.2.1 C.2.2.2.1 l6 ty0 l8 l9 C.2.2.1 C.2.2.2.2.1 h5.1 h5.2 h6 a ((ax_ws_get h.1).trans (by rw [ax_cell_o h.2 l3])) l1 j l2 (va_Nw.use rfl (C.2.2.2.2.2.2.2.2.2.1.2.2.2.2.1.2.2 _ l7)) (fun _ q => q) hfin hd rfl rfl (by rw [ax_flds_len, l4]; exact l2) hdg fun H1 locs1 hP hD hS => ?_
    rw [ax_set_fld (τ := ax_setI σ a j v) h.2 l3 rfl rfl l5 (by show Value.int (ax_up2 σ.1 a j v a j) = Value.int v; rw [ax_up2_s]) (ax_oI σ a j v)] at hP hD
    exact w ad H1 locs1 ls h1 h2 h3 h4 ⟨hP, hD⟩ hS h7 h8 (ax_lv_mono (σ := σ) (τ := ax_setI σ a j v) (Nat.le_refl (ax_z σ)) h9) (ax_st_mono (σ := σ) (τ := ax_setI σ a j v) (Nat.le_refl (ax_z σ)) h10.2.2)
theorem ok_putBF (C : OKC Γ cc own ret) {index ci j a : Nat} {v : Int32} (L : ax_FL own index ci j 0 .byte true) (hin : (cx_meth Γ).name = "<init>") (hdg : decode cc pc = .ok (.putfield index, 3)) {g : AS → Option AR} (k : ∀ τ, τ = ax_setI σ a j v → OK Γ (pc + 3) lv st (g τ) τ) : OK Γ pc lv (.int v :: .ref a :: st) (sB σ a ci j v g) σ := by
  intro r hr
  unfold sB at hr
  split at hr
  case isFalse => cases hr
  case isTrue h =>
    obtain ⟨C0, T, N, ty0, l1, l2, l3, l4, l5, l6, l7, l8, l9, hfin, hdec, l12⟩ := L
    obtain ⟨m, w⟩ := k _ rfl r hr
    refine ⟨m, fun ad H locs ls h1 h2 h3 h4 h5 h6 h7 h8 h9 h10 => ?_⟩
    have hd := l8 j l2
    rw [l12] at hd
    refine va_putF C.1 C.2.1 C.2.2.2.1 l6 ty0 l8 l9 C.2.2.1 C.2.2.2.2.1 h5.1 h5.2 h6 a ((ax_ws_get h.1.1).trans (by rw [ax_cell_o h.1.2 l3])) l1 j l2 (C.2.2.2.1 _ l7) (fun _ q => q) hfin hin (hdec rfl) hd (by show Value.int v.toInt8.toInt32 = Value.int v; rw [h.2]) (by show fits .byte (.int v) = true; rw [← h.2]; exact pk_fb v) (by rw [ax_flds_len, l4]; exact l2) hdg fun H1 locs1 hP hD hS => ?_
    rw [ax_set_fld (τ := ax_setI σ a j v) h.1.2 l3 rfl rfl l5 (by show Value.int (ax_up2 σ.1 a j v a j) = Value.int v; rw [ax_up2_s]) (ax_oI σ a j v)] at hP hD
    exact w ad H1 locs1 ls h1 h2 h3 h4 ⟨hP, hD⟩ hS h7 h8 (ax_lv_mono (σ := σ) (τ := ax_setI σ a j v) (Nat.le_refl (ax_z σ)) h9) (ax_st_mono (σ := σ) (τ := ax_setI σ a j v) (Nat.le_refl (ax_z σ)) h10.2.2)
end OKN
