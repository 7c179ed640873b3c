/-! THE LAW: how its worlds begin -/
section ZZN
variable {Γ : CX} {b L : Nat} {xs : Nat → Int32} {Q : State → Prop} {pc : Nat} {st rest : List Value} {σ1 σ2 τ : AS} {a1 a2 : Nat → Nat} {H H1 : Heap} {locs : List Loc} {ls : Array Slot} {cells slots : Nat}
theorem zz_len (dA : Nat → ClassId) (ad : Nat → Nat) (σ : AS) : (ax_ws dA ad σ).length = ax_z σ := by
  unfold ax_ws
  rw [List.length_map, List.length_range]
theorem zz_app (h : zz_2 Γ a1 a2 σ1 σ2 H locs) : va_P (cx_D Γ) vwCl (ax_ws (cx_dA Γ) a1 σ1 ++ ax_ws (cx_dA Γ) a2 σ2) H ∧ va_D (cx_A Γ) (ax_ws (cx_dA Γ) a1 σ1 ++ ax_ws (cx_dA Γ) a2 σ2) := by
  obtain ⟨h1, h2, h3, h4, h5, h6, h7, h8⟩ := h
  refine ⟨h3.1.app h4.1, h3.2.app h4.2 (fun i j p q hp hq e => ?_)⟩
  obtain ⟨x1, y1⟩ := ax_ws_inv hp
  obtain ⟨x2, y2⟩ := ax_ws_inv hq
  exact h5 i j x1 x2 (by rw [← y1, ← y2, e])
/-- one more cell in the first world -/
theorem zz_grow {t n q : Nat} (h : zz_2 Γ a1 a2 σ1 σ2 H locs) (hz : ax_z σ1 < 1000000)
    (hP : va_P (cx_D Γ) vwCl ((ax_ws (cx_dA Γ) a1 σ1 ++ ax_ws (cx_dA Γ) a2 σ2) ++ [(q, ax_cell (cx_dA Γ) (fun k => if k = ax_z σ1 then q else a1 k) (ax_new σ1 t n) (ax_z σ1))]) H1) (hD : va_D (cx_A Γ) ((ax_ws (cx_dA Γ) a1 σ1 ++ ax_ws (cx_dA Γ) a2 σ2) ++ [(q, ax_cell (cx_dA Γ) (fun k => if k = ax_z σ1 then q else a1 k) (ax_new σ1 t n) (ax_z σ1))])) (hS : va_S (cx_A Γ) (cx_s Γ).heap H1 locs) :
    zz_2 Γ (fun k => if k = ax_z σ1 then q else a1 k) a2 (ax_new σ1 t n) σ2 H1 locs := by
  obtain ⟨h1, h2, h3, h4, h5, h6, h7, h8⟩ := h
  generalize hce : ax_cell (cx_dA Γ) (fun k => if k = ax_z σ1 then q else a1 k) (ax_new σ1 t n) (ax_z σ1) = ce at hP hD
  have l1 := zz_len (cx_dA Γ) a1 σ1
  have l2 := zz_len (cx_dA Γ) a2 σ2
  have gI : ∀ (i : Nat) (x : Nat × va_E), (ax_ws (cx_dA Γ) a1 σ1)[i]? = some x → ((ax_ws (cx_dA Γ) a1 σ1 ++ ax_ws (cx_dA Γ) a2 σ2) ++ [(q, ce)])[i]? = some x := fun i x hx => by
    have hi := (List.getElem?_eq_some_iff.mp hx).1
    rw [List.getElem?_append_left (by rw [List.length_append]; omega), List.getElem?_append_left hi]
    exact hx
  have gJ : ∀ (j : Nat) (x : Nat × va_E), (ax_ws (cx_dA Γ) a2 σ2)[j]? = some x → ((ax_ws (cx_dA Γ) a1 σ1 ++ ax_ws (cx_dA Γ) a2 σ2) ++ [(q, ce)])[ax_z σ1 + j]? = some x := fun j x hx => by
    have hj := (List.getElem?_eq_some_iff.mp hx).1
    rw [List.getElem?_append_left (by rw [List.length_append]; omega), List.getElem?_append_right (by omega), l1, Nat.add_sub_cancel_left]
    exact hx
  have gC : ((ax_ws (cx_dA Γ) a1 σ1 ++ ax_ws (cx_dA Γ) a2 σ2) ++ [(q, ce)])[ax_z σ1 + ax_z σ2]? = some (q, ce) := by
    rw [List.getElem?_append_right (by rw [List.length_append]; omega), List.length_append, l1, l2, Nat.sub_self]
    rfl
  have hw := ax_ws_new (dA := cx_dA Γ) (ad := a1) (σ := σ1) (t := t) (n := n) (q := q) h7 hz
  rw [hce] at hw
  refine ⟨fun k hk => (if_neg (by omega)).trans (h1 k hk), h2, ⟨?_, ?_⟩, ⟨fun j x hx => hP _ x (gJ j x hx), h4.2⟩, fun i j hi hj e => ?_, hS, ax_cl_new h7, h8⟩
  · rw [hw]
    refine va_P.app (fun i x hx => hP i x (gI i x hx)) (fun k x hx => ?_)
    have hk : k < 1 := (List.getElem?_eq_some_iff.mp hx).1
    rw [show k = 0 by omega] at hx
    cases hx
    exact hP _ _ gC
  · rw [hw]
    refine va_D.app h3.2 ⟨fun i j x y hx hy _ => ?_, fun k x hx => ?_⟩ (fun i j x y hx hy e => ?_)
    · have := (List.getElem?_eq_some_iff.mp hx).1
      have := (List.getElem?_eq_some_iff.mp hy).1
      have i1 : i < 1 := (List.getElem?_eq_some_iff.mp hx).1
      have j1 : j < 1 := (List.getElem?_eq_some_iff.mp hy).1
      omega
    · have hk : k < 1 := (List.getElem?_eq_some_iff.mp hx).1
      rw [show k = 0 by omega] at hx
      cases hx
      exact hD.2 _ _ gC
    · have j1 : j < 1 := (List.getElem?_eq_some_iff.mp hy).1
      rw [show j = 0 by omega] at hy
      cases hy
      have hi := (ax_ws_inv hx).1
      have := hD.1 _ _ _ _ (gI i x hx) gC e
      omega
  · have hi : i < ax_z σ1 + 1 := hi
    have e : (if i = ax_z σ1 then q else a1 i) = a2 j := e
    by_cases he : i = ax_z σ1
    · rw [if_pos he] at e
      have hx := ax_ws_get (dA := cx_dA Γ) (ad := a2) (σ := σ2) hj
      have := hD.1 _ _ _ _ (gJ j _ hx) gC e.symm
      omega
    · rw [if_neg he] at e
      exact h5 i j (by omega) hj e
/-- a new object in the first world -/
theorem zz_new {ret : Option FieldType} (C : OKC Γ cL_law RL ret) (h : zz_2 Γ a1 a2 σ1 σ2 H locs) {index ci N : Nat} {C0 : String} (Ld : ax_DF ci N) (hc : ∃ T, vwCl[ci]? = some (C0, T, N)) (Lk : Cond.classLink RL index C0 ∈ ax_ALL) (hz : ax_z σ1 < 1000000) (hdg : decode cL_law pc = .ok (.new index, 3)) (hroom : cells + 1 ≤ (cx_R Γ zz_r).cells ∧ slots + N ≤ (cx_R Γ zz_r).slots)
    (kk : ∀ (q : Nat) (H1 : Heap), zz_2 Γ (fun k => if k = ax_z σ1 then q else a1 k) a2 (ax_new σ1 ci N) σ2 H1 locs → W (cx_p Γ) (cx_l Γ) (cx_e Γ) (cx_R Γ zz_r) (cx_s Γ) (cx_m Γ) (cx_a Γ) (cx_below Γ) (cx_meth Γ) (cx_c Γ) H1 locs (cells + 1) (slots + N) Q (F0 (cx_m Γ) (pc + 3) ls (.ref q :: rest))) :
    W (cx_p Γ) (cx_l Γ) (cx_e Γ) (cx_R Γ zz_r) (cx_s Γ) (cx_m Γ) (cx_a Γ) (cx_below Γ) (cx_meth Γ) (cx_c Γ) H locs cells slots Q (F0 (cx_m Γ) pc ls rest) := by
  obtain ⟨C1, T, ty0, l1, l2, l3, l4, l5, l6, l7, l8⟩ := Ld
  obtain ⟨T', hc⟩ := hc
  cases l1.symm.trans hc
  obtain ⟨hP, hD⟩ := zz_app h
  refine va_new (ci := ci) (fs := ax_flds a1 (ax_new σ1 ci N) (ax_z σ1) (ax_tags ci) 0) C.1 C.2.1 C.2.2.2.1 l3 ty0 l4 C.2.2.1 (C.2.2.2.1 _ Lk) (C.2.2.2.1 _ l7) (C.2.2.2.1 _ l8) C.2.2.2.2.1 hP hD h.2.2.2.2.2.1 cx_new l1
    (fun j hj => by rw [l6 j hj, ax_zflds (fun j => if_pos rfl) (fun j => if_pos rfl) (fun j => if_pos rfl) _ j (by omega)]) hroom.1 hroom.2 hdg fun q H1 hP hD hS => ?_
  have hcell : ax_cell (cx_dA Γ) (fun k => if k = ax_z σ1 then q else a1 k) (ax_new σ1 ci N) (ax_z σ1) = .inr (ci, ax_flds a1 (ax_new σ1 ci N) (ax_z σ1) (ax_tags ci) 0) := by
    rw [ax_cell_o (show (ax_H (ax_new σ1 ci N) (ax_z σ1)).1 = ci from congrArg Prod.fst (if_pos rfl)) l2]
    refine congrArg (fun z => Sum.inr (ci, z)) (ax_flds_cong _ _ (fun j => rfl) (fun j => rfl) (fun j => ?_))
    show (if ax_z σ1 = ax_z σ1 then none else ax_P σ1 (ax_z σ1) j).map _ = (if ax_z σ1 = ax_z σ1 then none else ax_P σ1 (ax_z σ1) j).map _
    rw [if_pos rfl]
    rfl
  exact kk q H1 (zz_grow h hz (by rw [hcell]; exact hP) (by rw [hcell]; exact hD) hS)
/-- a new row of one long, or of one double, in the first world -/
theorem zz_newa {ret : Option FieldType} (C : OKC Γ cL_law RL ret) (h : zz_2 Γ a1 a2 σ1 σ2 H locs) (t t0 : Nat) {atype : ArrayType} (ty : FieldType) (a0 : vp_A) (harr : Cond.arrayClass (newarray.typeOf atype) ∈ ax_ALL) (hty : newarray.typeOf atype = ty) (ht : ∀ dA, (ax_ty dA)[t0]? = some (dA t, ty)) (h100 : ¬ t < 100)
    (ha : ∀ cA : ClassId, vp_cell cA a0 = arrV cA 1 (fun _ => defaultValue ty)) (hcomp : componentBytes ty ≤ 8) (hnm : ∀ (U : State) (cA : ClassId), va_RA U cA ty → U.vm.findClass ("[" ++ ty.toString) = some cA)
    (hcl : ∀ (dA : Nat → ClassId) (ad : Nat → Nat) (σ : AS) (k : Nat), (∀ j, ax_I σ k j = 0) → (∀ j, ax_J σ k j = 0) → (∀ j, ax_P σ k j = none) → ax_arr dA ad σ k t 1 = .inl (dA t, a0)) (hz : ax_z σ1 < 1000000) (hdg : decode cL_law pc = .ok (.newarray atype, 2)) (hroom : cells + 1 ≤ (cx_R Γ zz_r).cells ∧ slots + 1 ≤ (cx_R Γ zz_r).slots)
    (kk : ∀ (q : Nat) (H1 : Heap), zz_2 Γ (fun k => if k = ax_z σ1 then q else a1 k) a2 (ax_new σ1 t 1) σ2 H1 locs → W (cx_p Γ) (cx_l Γ) (cx_e Γ) (cx_R Γ zz_r) (cx_s Γ) (cx_m Γ) (cx_a Γ) (cx_below Γ) (cx_meth Γ) (cx_c Γ) H1 locs (cells + 1) (slots + 1) Q (F0 (cx_m Γ) (pc + 2) ls (.ref q :: rest))) :
    W (cx_p Γ) (cx_l Γ) (cx_e Γ) (cx_R Γ zz_r) (cx_s Γ) (cx_m Γ) (cx_a Γ) (cx_below Γ) (cx_meth Γ) (cx_c Γ) H locs cells slots Q (F0 (cx_m Γ) pc ls (.int 1 :: rest)) := by
  obtain ⟨hP, hD⟩ := zz_app h
  refine va_newa (a0 := a0) (n := 1) (N' := 1) C.1 C.2.1 (C.2.2.2.1 _ harr) hty C.2.2.2.2.1 hP hD h.2.2.2.2.2.1 cx_new ha (by decide) (by decide) (Nat.le_trans (Nat.mul_le_mul (Nat.le_refl 1) hcomp) (by decide)) hroom.1 hroom.2 hdg fun q cA H1 hK hP hD hS => ?_
  have e1 := hnm _ _ (C.2.2.2.2.1.2 t0 _ (ht _)).2
  have e2 := hnm _ _ (hK.2 (ax_ty (cx_dA Γ)).length (cA, ty) (by rw [List.getElem?_append_right (Nat.le_refl _), Nat.sub_self]; rfl)).2
  have hcA : cA = cx_dA Γ t := Option.some.inj (e2.symm.trans e1)
  subst hcA
  have hcell : ax_cell (cx_dA Γ) (fun k => if k = ax_z σ1 then q else a1 k) (ax_new σ1 t 1) (ax_z σ1) = .inl (cx_dA Γ t, a0) := by
    have hH : ax_H (ax_new σ1 t 1) (ax_z σ1) = (t, 1) := if_pos rfl
    rw [ax_cell_a (congrArg Prod.fst hH) h100, congrArg Prod.snd hH]
    exact hcl _ _ _ _ (fun j => if_pos rfl) (fun j => if_pos rfl) (fun j => if_pos rfl)
  exact kk q H1 (zz_grow h hz (by rw [hcell]; exact hP) (by rw [hcell]; exact hD) hS)
/-- a constructor, in the first world -/
theorem zz_I {ret : Option FieldType} (C : OKC Γ cL_law RL ret) (h : zz_2 Γ a1 a2 σ1 σ2 H locs) {index maxL fr' lo' : Nat} {y : MethodName} {bytes : ByteArray} {F : AS → Option AR}
    (hM : Ct (cx_l Γ) (cx_D Γ) (cx_dA Γ) (cx_B Γ) y (.code y bytes maxL none :: ax_ALL) fr' lo' [.ref 0] F) (Lk : ax_VL RL index y bytes maxL none 0) (I : Cond.instanceMethod y ∈ ax_ALL) (hy : y.name = "<init>") (hF : F σ1 = some (.inl none, τ)) (h0 : 0 < ax_z σ1) (hls : ls.size = cx_nL Γ) (hroom : fr' + 1 ≤ cx_fr Γ ∧ 8 + (maxL + 11) + lo' ≤ cx_lo Γ) (hst : (rest.map fun v => v.category).sum ≤ 8)
    (hf : cells + (ax_nc τ - ax_nc σ1) ≤ (cx_R Γ zz_r).cells ∧ slots + (ax_ns τ - ax_ns σ1) ≤ (cx_R Γ zz_r).slots) (hdg : decode cL_law pc = .ok (.invokespecial index, 3))
    (kk : ∀ (a3 : Nat → Nat) (H1 : Heap) (locs1 : List Loc), (∀ k, k < ax_z σ1 ∨ 1000000 ≤ k → a3 k = a1 k) → zz_2 Γ a3 a2 τ σ2 H1 locs1 → W (cx_p Γ) (cx_l Γ) (cx_e Γ) (cx_R Γ zz_r) (cx_s Γ) (cx_m Γ) (cx_a Γ) (cx_below Γ) (cx_meth Γ) (cx_c Γ) H1 locs1 (cells + (ax_nc τ - ax_nc σ1)) (slots + (ax_ns τ - ax_ns σ1)) Q (F0 (cx_m Γ) (pc + 3) ls rest)) :
    W (cx_p Γ) (cx_l Γ) (cx_e Γ) (cx_R Γ zz_r) (cx_s Γ) (cx_m Γ) (cx_a Γ) (cx_below Γ) (cx_meth Γ) (cx_c Γ) H locs cells slots Q (F0 (cx_m Γ) pc ls (.ref (a1 0) :: rest)) := by
  have hr := va_runI (rest := rest) (g := F0 (cx_m Γ) pc ls (.ref (a1 0) :: rest)) (ax_fix C) (zz_met hM (ad := a1) hF H.size) (b := a1 0) (As := []) (R := cx_R Γ zz_r) (H := H) (locs := locs) (cells := cells) (slots := slots) (e := cx_e Γ) (below := cx_below Γ) (meth := cx_meth Γ) (n := 0) (l := cx_l Γ)
    ⟨ax_callB C.2.2.2.1 Lk hroom, hy, C.2.2.2.1 _ I⟩
    ⟨ax_Pc.blind, fun U hU hW => ax_pre C h.2.2.1 h.2.2.2.2.2.1 h.2.2.2.2.2.2.1 (show ax_st σ1 [.ref 0] from ⟨Or.inl h0, trivial⟩) h.1 U hU hW⟩ rfl rfl hls rfl (by show 2 * 0 + (rest.map fun v => v.category).sum ≤ 8; omega) hdg hf
  exact zz_run C h hr (fun a3 H1 locs1 had h5 => kk a3 H1 locs1 had h5)
end ZZN
/-! THE LAW: its loop -/
def zz_starts : List Nat := [280, 353, 409, 422, 435, 448, 504, 560, 628, 696, 764, 832, 916, 979, 1023, 1067, 1111, 1155, 1220, 1286, 1352, 1420, 1488, 1544, 1600, 1668, 1724, 1780, 1855, 1911, 1967, 2051, 2107, 2151, 2195, 2251, 2307, 2351, 2407, 2475, 2543, 2611, 2679, 2763, 2831, 2887, 2943, 2999, 3055, 3111, 3167, 3235, 3279, 3292, 3348]
def zz_offs : Array Int := #[235, 308, 364, 377, 390, 403, 459, 515, 583, 651, 719, 787, 871, 934, 978, 1022, 1066, 1110, 1175, 1241, 1307, 1375, 1443, 1499, 1555, 1623, 1679, 1735, 1810, 1866, 1922, 2006, 2062, 2106, 2150, 2206, 2262, 2306, 2362, 2430, 2498, 2566, 2634, 2718, 2786, 2842, 2898, 2954, 3010, 3066, 3122, 3190, 3234, 3247, 3303]
theorem zz_offs_at : ∀ k : Nat, k < 55 → zz_offs[k]? = some (((zz_starts.getD k 0 : Nat) : Int) - 45) := by decide +kernel
section ZZL
variable {Γ : CX} {b L : Nat} {xs : Nat → Int32} {Q : State → Prop} {C0 N0 : Nat} {K : Nat × Nat}
abbrev zz_lv2 (i : Int32) : List (Nat × Value) := [(5, .int i), (0, .ref 0), (1, .ref 1), (2, .ref 2), (3, .ref 3), (4, .ref 4)]
theorem zz_63 (w : Int32) : 0 ≤ (w &&& 63).toInt ∧ (w &&& 63).toInt ≤ 63 := by
  have h : (w &&& 63).toBitVec.toNat ≤ 63 := by
    rw [Int32.toBitVec_and, BitVec.toNat_and]
    exact Nat.and_le_right
  have h2 : (w &&& 63).toInt = ((w &&& 63).toBitVec.toNat : Int) := by
    show (w &&& 63).toBitVec.toInt = _
    rw [BitVec.toInt_eq_toNat_of_lt (by omega)]
  omega
theorem zz_case {n : Nat} {i : Int32} (C : zz_C Γ b L xs) (hB : zz_B C0 N0 K) (hn : n ≤ 512) (hi : zz_in i L) (kk : zz_N Γ b Q C0 N0 (n + 1) K 3404 i) : ∀ k : Nat, k < 55 → zz_N Γ b Q C0 N0 n K (zz_starts.getD k 0) i
  | 0, _ => zc_0 C hB hn hi kk
  | 1, _ => zc_1 C hB hn hi kk
  | 2, _ => zc_2 C hB hn hi kk
  | 3, _ => zc_3 C hB hn hi kk
  | 4, _ => zc_4 C hB hn hi kk
  | 5, _ => zc_5 C hB hn hi kk
  | 6, _ => zc_6 C hB hn hi kk
  | 7, _ => zc_7 C hB hn hi kk
  | 8, _ => zc_8 C hB hn hi kk
  | 9, _ => zc_9 C hB hn hi kk
  | 10, _ => zc_10 C hB hn hi kk
  | 11, _ => zc_11 C hB hn hi kk
  | 12, _ => zc_12 C hB hn hi kk
  | 13, _ => zc_13 C hB hn hi kk
  | 14, _ => zc_14 C hB hn hi kk
  | 15, _ => zc_15 C hB hn hi kk
  | 16, _ => zc_16 C hB hn hi kk
  | 17, _ => zc_17 C hB hn hi kk
  | 18, _ => zc_18 C hB hn hi kk
  | 19, _ => zc_19 C hB hn hi kk
  | 20, _ => zc_20 C hB hn hi kk
  | 21, _ => zc_21 C hB hn hi kk
  | 22, _ => zc_22 C hB hn hi kk
  | 23, _ => zc_23 C hB hn hi kk
  | 24, _ => zc_24 C hB hn hi kk
  | 25, _ => zc_25 C hB hn hi kk
  | 26, _ => zc_26 C hB hn hi kk
  | 27, _ => zc_27 C hB hn hi kk
  | 28, _ => zc_28 C hB hn hi kk
  | 29, _ => zc_29 C hB hn hi kk
  | 30, _ => zc_30 C hB hn hi kk
  | 31, _ => zc_31 C hB hn hi kk
  | 32, _ => zc_32 C hB hn hi kk
  | 33, _ => zc_33 C hB hn hi kk
  | 34, _ => zc_34 C hB hn hi kk
  | 35, _ => zc_35 C hB hn hi kk
  | 36, _ => zc_36 C hB hn hi kk
  | 37, _ => zc_37 C hB hn hi kk
  | 38, _ => zc_38 C hB hn hi kk
  | 39, _ => zc_39 C hB hn hi kk
  | 40, _ => zc_40 C hB hn hi kk
  | 41, _ => zc_41 C hB hn hi kk
  | 42, _ => zc_42 C hB hn hi kk
  | 43, _ => zc_43 C hB hn hi kk
  | 44, _ => zc_44 C hB hn hi kk
  | 45, _ => zc_45 C hB hn hi kk
  | 46, _ => zc_46 C hB hn hi kk
  | 47, _ => zc_47 C hB hn hi kk
  | 48, _ => zc_48 C hB hn hi kk
  | 49, _ => zc_49 C hB hn hi kk
  | 50, _ => zc_50 C hB hn hi kk
  | 51, _ => zc_51 C hB hn hi kk
  | 52, _ => zc_52 C hB hn hi kk
  | 53, _ => zc_53 C hB hn hi kk
  | 54, _ => zc_54 C hB hn hi kk
  | k + 55, h => absurd h (by omega)
/-- the scripts' ints lie within -/
theorem zz_inb (n k : Nat) (h : 6 * n + k < L) (hL : L ≤ 3072) : vp_in (ii (6 * n) + ii k) L := by
  intro q
  rw [ii_add] at q
  rcases q with q | q
  · rw [show (0 : Int32) = ii 0 from rfl, ii_lt _ _ (by omega)] at q
    omega
  · rw [ii_tn _ (by omega)] at q
    omega
theorem zz_loop (C : zz_C Γ b L xs) (hL : L ≤ 3072) (hB : zz_B C0 N0 K) (hend : ∀ (lv : List (Nat × Value)) (σ1 σ2 : AS), ax_nc σ1 + ax_nc σ2 ≤ 601024 ∧ ax_ns σ1 + ax_ns σ2 ≤ 7293033 → LW Γ b Q 3410 lv [] σ1 σ2) : ∀ d n : Nat, 513 ≤ n + d → n ≤ 512 → zz_N Γ b Q C0 N0 n K 28 (ii (6 * n)) := by
  intro d
  induction d with
  | zero => intro n h1 h2; omega
  | succ d ih =>
    intro n h1 h2 pl sp tv cap c A J M g hI
    have hLi : (Int32.ofNat L : Int32) = ii L := rfl
    refine zz_iload C 5 dL_law_28 rfl ?_
    refine zz_aload_n C 0 dL_law_30 rfl ?_
    refine zz_slen C dL_law_31 ?_
    refine zz_bipush C (v := 6) dL_law_32 (by decide) ?_
    refine zz_isub C dL_law_34 ?_
    rw [hLi, show (6 : Int32) = ii 6 from rfl, ii_sub]
    refine zz_icmpgt C 3410 dL_law_35 (by decide) (fun _ => hend _ _ _ (zz_cap hB (by omega) hI)) (fun q => ?_)
    rw [ii_lt _ _ (by omega)] at q
    have hb : 6 * n + 6 ≤ L := by omega
    have hi : zz_in (ii (6 * n)) L := ⟨zz_inb n 1 (by omega) hL, zz_inb n 2 (by omega) hL, zz_inb n 3 (by omega) hL, zz_inb n 4 (by omega) hL, zz_inb n 5 (by omega) hL⟩
    have hi0 : vp_in (ii (6 * n)) L := by
      have := zz_inb (L := L) n 0 (by omega) hL
      rw [ii_add, show ((6 * (n : Int) + ((0 : Nat) : Int))) = 6 * (n : Int) by omega] at this
      exact this
    have kk : zz_N Γ b Q C0 N0 (n + 1) K 3404 (ii (6 * n)) := by
      intro pl sp tv cap c A J M g hI
      refine zz_iinc C 5 (v := ii (6 * ((n + 1 : Nat) : Int))) (zz_lv2 (ii (6 * ((n + 1 : Nat) : Int)))) dL_law_3404 rfl (by rw [show Int32.ofInt 6 = ii 6 from rfl, ii_add]; exact congrArg ii (by omega)) (by decide) rfl ?_
      refine zz_goto C 28 dL_law_3407 (by decide) ?_
      refine zz_sub [1, 2, 3, 4, 5, 0] rfl ?_
      exact ih (n + 1) (by omega) (by omega) _ _ _ _ _ _ _ _ _ hI
    refine zz_aload_n C 0 dL_law_38 rfl ?_
    refine zz_iload C 5 dL_law_39 rfl ?_
    refine zz_sld C hi0 dL_law_41 ?_
    refine zz_bipush C (v := 63) dL_law_42 (by decide) ?_
    refine zz_iand C dL_law_44 ?_
    generalize xs (ii (6 * (n : Int))).toNatClampNeg = w
    have hw : 0 ≤ (w &&& 63).toInt ∧ (w &&& 63).toInt ≤ 63 := zz_63 w
    generalize w &&& 63 = x at hw
    by_cases hx : 54 < x.toInt
    · exact zz_tabOut C 3404 dL_law_45 (Or.inr hx) (by decide) (kk _ _ _ _ _ _ _ _ _ hI.one)
    · have ho := zz_offs_at x.toInt.toNat (by omega)
      refine zz_tabIn C (off := ((zz_starts.getD x.toInt.toNat 0 : Nat) : Int) - 45) (zz_starts.getD x.toInt.toNat 0) dL_law_45 (by omega) hx ?_ (by omega) (zz_case C hB h2 hi kk x.toInt.toNat (by omega) _ _ _ _ _ _ _ _ _ hI)
      rw [Int.sub_zero]
      exact ho
end ZZL
