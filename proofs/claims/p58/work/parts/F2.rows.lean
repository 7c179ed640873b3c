/-! THE LAW: its first rows, over the class's world and its own, side by side -/
/-- an end that takes all the room that the law takes -/
def zz_r : AR := (.inl (some (.int 1)), (fun _ _ => 0, fun _ _ => 0, fun _ _ => none, fun _ => (0, 0), 0, 410000, 2020000))
/-- the two worlds lie apart in the heap -/
def zz_2 (Γ : CX) (a1 a2 : Nat → Nat) (σ1 σ2 : AS) (H : Heap) (locs : List Loc) : Prop :=
  (∀ k, 1000000 ≤ k → a1 k = cx_ad Γ k) ∧ (∀ k, 1000000 ≤ k → a2 k = cx_ad Γ k) ∧ ax_Rep (cx_D Γ) (cx_dA Γ) (cx_A Γ) a1 σ1 H ∧ ax_Rep (cx_D Γ) (cx_dA Γ) (cx_A Γ) a2 σ2 H ∧ (∀ i j, i < ax_z σ1 → j < ax_z σ2 → a1 i ≠ a2 j) ∧ va_S (cx_A Γ) (cx_s Γ).heap H locs ∧ ax_cl σ1 ∧ ax_cl σ2
theorem ax_ws_inv {dA : Nat → ClassId} {ad : Nat → Nat} {σ : AS} {k : Nat} {q : Nat × va_E} (h : (ax_ws dA ad σ)[k]? = some q) : k < ax_z σ ∧ q.1 = ad k := by
  by_cases hk : k < ax_z σ
  · rw [ax_ws_get hk] at h
    cases h
    exact ⟨hk, rfl⟩
  · unfold ax_ws at h
    rw [List.getElem?_eq_none (by simp; omega)] at h
    cases h
theorem zz_2.swap {Γ : CX} {a1 a2 : Nat → Nat} {σ1 σ2 : AS} {H : Heap} {locs : List Loc} (h : zz_2 Γ a1 a2 σ1 σ2 H locs) : zz_2 Γ a2 a1 σ2 σ1 H locs := by
  obtain ⟨h1, h2, h3, h4, h5, h6, h7, h8⟩ := h
  exact ⟨h2, h1, h4, h3, fun i j hi hj e => h5 j i hj hi e.symm, h6, h8, h7⟩
theorem zz_2.step {Γ : CX} {a1 a2 a3 : Nat → Nat} {σ1 σ2 τ : AS} {H H1 : Heap} {locs locs1 : List Loc} (h : zz_2 Γ a1 a2 σ1 σ2 H locs) (ha : ∀ k, k < ax_z σ1 ∨ 1000000 ≤ k → a3 k = a1 k) (hR : ax_Rep (cx_D Γ) (cx_dA Γ) (va_A (ax_ws (cx_dA Γ) a1 σ1) H.size) a3 τ H1) (hk : ∀ q : Nat, q < H.size → ¬ va_A (ax_ws (cx_dA Γ) a1 σ1) H.size q → H1[q]? = H[q]?) (hS : va_S (cx_A Γ) (cx_s Γ).heap H1 locs1) (hcl : ax_cl τ) : zz_2 Γ a3 a2 τ σ2 H1 locs1 := by
  obtain ⟨h1, h2, h3, h4, h5, h6, h7, h8⟩ := h
  have hAq := ax_inA h3 h6
  have hlt : ∀ j, j < ax_z σ2 → a2 j < H.size := fun j hj => (h4.1 j _ (ax_ws_get hj)).lt
  have hno : ∀ j, j < ax_z σ2 → ¬ va_A (ax_ws (cx_dA Γ) a1 σ1) H.size (a2 j) := by
    intro j hj q
    rcases q with ⟨i, e, hi⟩ | q
    · obtain ⟨x, y⟩ := ax_ws_inv hi
      exact h5 i j x hj y.symm
    · exact absurd (hlt j hj) (Nat.not_lt.mpr q)
  refine ⟨fun k hk => (ha k (Or.inr hk)).trans (h1 k hk), h2, ⟨hR.1, hR.2.weaken (fun _ q _ h => hAq q.1 h)⟩, ⟨h4.1.kept (fun k q hq => ?_), h4.2⟩, fun i j hi hj e => ?_, hS, hcl, h8⟩
  · obtain ⟨x, y⟩ := ax_ws_inv hq
    rw [y]
    exact hk _ (hlt k x) (hno k x)
  · have hq := hR.2.2 i _ (ax_ws_get hi)
    dsimp only at hq
    rw [e] at hq
    exact hno j hj hq
theorem zz_metS {l : Launch} {D : va_G} {dA : Nat → ClassId} {B0 fr lo : Nat} {y : MethodName} {ws : List Cond} {as : List Value} {F : Nat × (Nat → Int32) → AS → Option AR} {ad : Nat → Nat} {σ τ : AS} {v : Option Value} (h : CtS l D dA B0 y ws fr lo as F) (hF : F (ax_scr ad) σ = some (.inl v, τ)) (sz : Nat) :
    Met l y ws { frames := fr, cells := ax_nc τ - ax_nc σ, slots := ax_ns τ - ax_ns σ, locals := lo } (ax_Pc D dA B0 ad as σ sz) (ax_Qc D dA (va_A (ax_ws dA ad σ) sz) ad σ (.inl v, τ)) (ax_nc τ - ax_nc σ) (ax_ns τ - ax_ns σ) (va_A (ax_ws dA ad σ) sz) :=
  MetFree.mono (h ad σ (.inl v, τ) hF sz) (fun _ _ q => q) (fun _ _ _ _ _ q => q) (fun a st o t _ hq => by
    rcases hq with hq | ⟨q, ho, E, ce, L, ⟨ad', hE, -⟩, -⟩
    · exact hq
    · cases hE)
/-- behind a call that returned, over the first of two worlds -/
theorem zz_run {Γ : CX} {cc : ByteArray} {own : String} {ret : Option FieldType} (C : OKC Γ cc own ret) {R : Room} {Q : State → Prop} {a1 a2 : Nat → Nat} {σ1 σ2 τ : AS} {H : Heap} {locs : List Loc} {ls : Array Slot} {cells slots mc ms pc : Nat} {st0 rest : List Value} {v : Option Value} {a : Array Value} (h2 : zz_2 Γ a1 a2 σ1 σ2 H locs)
    (hr : va_Run (cx_p Γ) (cx_l Γ) (cx_e Γ) R (cx_s Γ) (cx_m Γ) (cx_a Γ) (cx_below Γ) (cx_meth Γ) (cx_c Γ) H locs cells slots mc ms (F0 (cx_m Γ) pc ls st0) rest (ax_Qc (cx_D Γ) (cx_dA Γ) (va_A (ax_ws (cx_dA Γ) a1 σ1) H.size) a1 σ1 (.inl v, τ) a) (va_A (ax_ws (cx_dA Γ) a1 σ1) H.size))
    (kk : ∀ (a3 : Nat → Nat) (H1 : Heap) (locs1 : List Loc), (∀ k, k < ax_z σ1 ∨ 1000000 ≤ k → a3 k = a1 k) → zz_2 Γ a3 a2 τ σ2 H1 locs1 → W (cx_p Γ) (cx_l Γ) (cx_e Γ) R (cx_s Γ) (cx_m Γ) (cx_a Γ) (cx_below Γ) (cx_meth Γ) (cx_c Γ) H1 locs1 (cells + mc) (slots + ms) Q (F0 (cx_m Γ) (pc + 3) ls ((v.map (ax_cv a3)).toList ++ rest))) :
    W (cx_p Γ) (cx_l Γ) (cx_e Γ) R (cx_s Γ) (cx_m Γ) (cx_a Γ) (cx_below Γ) (cx_meth Γ) (cx_c Γ) H locs cells slots Q (F0 (cx_m Γ) pc ls st0) := by
  intro T0 hT0 X
  have hAq := ax_inA h2.2.2.1 h2.2.2.2.2.2.1
  obtain ⟨v', st₀, t, T', L, h0, X', hL, e1, e2, ⟨a3, v9, hv, ho, had, hR, hF, hcl, -⟩, stp⟩ := hr T0 hT0 X
  cases hv
  cases ho
  obtain ⟨k1, k2, k3⟩ := vx_keep h0 e1 h2.2.2.2.2.2.1 (fun q _ hq => hAq q hq) hAq hL hF
  obtain ⟨t2, x1, x2⟩ := kk a3 T'.heap (locs ++ L) had (h2.step had ⟨by rw [e1]; exact hR.1, hR.2⟩ k2 k3 hcl) T' rfl X'
  exact ⟨t2, stp t2 x1, x2⟩
section ZZN
variable {Γ : CX} {b L : Nat} {xs : Nat → Int32} {Q : State → Prop} {pc : Nat} {st rest : List Value} {σ1 σ2 τ : AS} {a1 a2 : Nat → Nat} {H H1 : Heap} {locs : List Loc} {ls : Array Slot} {cells slots : Nat}
theorem zz_len (dA : Nat → ClassId) (ad : Nat → Nat) (σ : AS) : (ax_ws dA ad σ).length = ax_z σ := by
  unfold ax_ws
  rw [List.length_map, List.length_range]
theorem zz_app (h : zz_2 Γ a1 a2 σ1 σ2 H locs) : va_P (cx_D Γ) vwCl (ax_ws (cx_dA Γ) a1 σ1 ++ ax_ws (cx_dA Γ) a2 σ2) H ∧ va_D (cx_A Γ) (ax_ws (cx_dA Γ) a1 σ1 ++ ax_ws (cx_dA Γ) a2 σ2) := by
  obtain ⟨h1, h2, h3, h4, h5, h6, h7, h8⟩ := h
  refine ⟨h3.1.app h4.1, h3.2.app h4.2 (fun i j p q hp hq e => ?_)⟩
  obtain ⟨x1, y1⟩ := ax_ws_inv hp
  obtain ⟨x2, y2⟩ := ax_ws_inv hq
  exact h5 i j x1 x2 (by rw [← y1, ← y2, e])
/-- one more cell in the first world -/
theorem zz_grow {t n q : Nat} (h : zz_2 Γ a1 a2 σ1 σ2 H locs) (hz : ax_z σ1 < 1000000)
    (hP : va_P (cx_D Γ) vwCl ((ax_ws (cx_dA Γ) a1 σ1 ++ ax_ws (cx_dA Γ) a2 σ2) ++ [(q, ax_cell (cx_dA Γ) (fun k => if k = ax_z σ1 then q else a1 k) (ax_new σ1 t n) (ax_z σ1))]) H1) (hD : va_D (cx_A Γ) ((ax_ws (cx_dA Γ) a1 σ1 ++ ax_ws (cx_dA Γ) a2 σ2) ++ [(q, ax_cell (cx_dA Γ) (fun k => if k = ax_z σ1 then q else a1 k) (ax_new σ1 t n) (ax_z σ1))])) (hS : va_S (cx_A Γ) (cx_s Γ).heap H1 locs) :
    zz_2 Γ (fun k => if k = ax_z σ1 then q else a1 k) a2 (ax_new σ1 t n) σ2 H1 locs := by
  obtain ⟨h1, h2, h3, h4, h5, h6, h7, h8⟩ := h
  generalize hce : ax_cell (cx_dA Γ) (fun k => if k = ax_z σ1 then q else a1 k) (ax_new σ1 t n) (ax_z σ1) = ce at hP hD
  have l1 := zz_len (cx_dA Γ) a1 σ1
  have l2 := zz_len (cx_dA Γ) a2 σ2
  have gI : ∀ (i : Nat) (x : Nat × va_E), (ax_ws (cx_dA Γ) a1 σ1)[i]? = some x → ((ax_ws (cx_dA Γ) a1 σ1 ++ ax_ws (cx_dA Γ) a2 σ2) ++ [(q, ce)])[i]? = some x := fun i x hx => by
    have hi := (List.getElem?_eq_some_iff.mp hx).1
    rw [List.getElem?_append_left (by rw [List.length_append]; omega), List.getElem?_append_left hi]
    exact hx
  have gJ : ∀ (j : Nat) (x : Nat × va_E), (ax_ws (cx_dA Γ) a2 σ2)[j]? = some x → ((ax_ws (cx_dA Γ) a1 σ1 ++ ax_ws (cx_dA Γ) a2 σ2) ++ [(q, ce)])[ax_z σ1 + j]? = some x := fun j x hx => by
    have hj := (List.getElem?_eq_some_iff.mp hx).1
    rw [List.getElem?_append_left (by rw [List.length_append]; omega), List.getElem?_append_right (by omega), l1, Nat.add_sub_cancel_left]
    exact hx
  have gC : ((ax_ws (cx_dA Γ) a1 σ1 ++ ax_ws (cx_dA Γ) a2 σ2) ++ [(q, ce)])[ax_z σ1 + ax_z σ2]? = some (q, ce) := by
    rw [List.getElem?_append_right (by rw [List.length_append]; omega), List.length_append, l1, l2, Nat.sub_self]
    rfl
  have hw := ax_ws_new (dA := cx_dA Γ) (ad := a1) (σ := σ1) (t := t) (n := n) (q := q) h7 hz
  rw [hce] at hw
  refine ⟨fun k hk => (if_neg (by omega)).trans (h1 k hk), h2, ⟨?_, ?_⟩, ⟨fun j x hx => hP _ x (gJ j x hx), h4.2⟩, fun i j hi hj e => ?_, hS, ax_cl_new h7, h8⟩
  · rw [hw]
    refine va_P.app (fun i x hx => hP i x (gI i x hx)) (fun k x hx => ?_)
    have hk : k < 1 := (List.getElem?_eq_some_iff.mp hx).1
    rw [show k = 0 by omega] at hx
    cases hx
    exact hP _ _ gC
  · rw [hw]
    refine va_D.app h3.2 ⟨fun i j x y hx hy _ => ?_, fun k x hx => ?_⟩ (fun i j x y hx hy e => ?_)
    · have := (List.getElem?_eq_some_iff.mp hx).1
      have := (List.getElem?_eq_some_iff.mp hy).1
      have i1 : i < 1 := (List.getElem?_eq_some_iff.mp hx).1
      have j1 : j < 1 := (List.getElem?_eq_some_iff.mp hy).1
      omega
    · have hk : k < 1 := (List.getElem?_eq_some_iff.mp hx).1
      rw [show k = 0 by omega] at hx
      cases hx
      exact hD.2 _ _ gC
    · have j1 : j < 1 := (List.getElem?_eq_some_iff.mp hy).1
      rw [show j = 0 by omega] at hy
      cases hy
      have hi := (ax_ws_inv hx).1
      have := hD.1 _ _ _ _ (gI i x hx) gC e
      omega
  · have hi : i < ax_z σ1 + 1 := hi
    have e : (if i = ax_z σ1 then q else a1 i) = a2 j := e
    by_cases he : i = ax_z σ1
    · rw [if_pos he] at e
      have hx := ax_ws_get (dA := cx_dA Γ) (ad := a2) (σ := σ2) hj
      have := hD.1 _ _ _ _ (gJ j _ hx) gC e.symm
      omega
    · rw [if_neg he] at e
      exact h5 i j (by omega) hj e
/-- a new object in the first world -/
theorem zz_new {ret : Option FieldType} (C : OKC Γ cL_law RL ret) (h : zz_2 Γ a1 a2 σ1 σ2 H locs) {index ci N : Nat} {C0 : String} (Ld : ax_DF ci N) (hc : ∃ T, vwCl[ci]? = some (C0, T, N)) (Lk : Cond.classLink RL index C0 ∈ ax_ALL) (hz : ax_z σ1 < 1000000) (hdg : decode cL_law pc = .ok (.new index, 3)) (hroom : cells + 1 ≤ (cx_R Γ zz_r).cells ∧ slots + N ≤ (cx_R Γ zz_r).slots)
    (kk : ∀ (q : Nat) (H1 : Heap), zz_2 Γ (fun k => if k = ax_z σ1 then q else a1 k) a2 (ax_new σ1 ci N) σ2 H1 locs → W (cx_p Γ) (cx_l Γ) (cx_e Γ) (cx_R Γ zz_r) (cx_s Γ) (cx_m Γ) (cx_a Γ) (cx_below Γ) (cx_meth Γ) (cx_c Γ) H1 locs (cells + 1) (slots + N) Q (F0 (cx_m Γ) (pc + 3) ls (.ref q :: rest))) :
    W (cx_p Γ) (cx_l Γ) (cx_e Γ) (cx_R Γ zz_r) (cx_s Γ) (cx_m Γ) (cx_a Γ) (cx_below Γ) (cx_meth Γ) (cx_c Γ) H locs cells slots Q (F0 (cx_m Γ) pc ls rest) := by
  obtain ⟨C1, T, ty0, l1, l2, l3, l4, l5, l6, l7, l8⟩ := Ld
  obtain ⟨T', hc⟩ := hc
  cases l1.symm.trans hc
  obtain ⟨hP, hD⟩ := zz_app h
  refine va_new (ci := ci) (fs := ax_flds a1 (ax_new σ1 ci N) (ax_z σ1) (ax_tags ci) 0) C.1 C.2.1 C.2.2.2.1 l3 ty0 l4 C.2.2.1 (C.2.2.2.1 _ Lk) (C.2.2.2.1 _ l7) (C.2.2.2.1 _ l8) C.2.2.2.2.1 hP hD h.2.2.2.2.2.1 cx_new l1
    (fun j hj => by rw [l6 j hj, ax_zflds (fun j => if_pos rfl) (fun j => if_pos rfl) (fun j => if_pos rfl) _ j (by omega)]) hroom.1 hroom.2 hdg fun q H1 hP hD hS => ?_
  have hcell : ax_cell (cx_dA Γ) (fun k => if k = ax_z σ1 then q else a1 k) (ax_new σ1 ci N) (ax_z σ1) = .inr (ci, ax_flds a1 (ax_new σ1 ci N) (ax_z σ1) (ax_tags ci) 0) := by
    rw [ax_cell_o (show (ax_H (ax_new σ1 ci N) (ax_z σ1)).1 = ci from congrArg Prod.fst (if_pos rfl)) l2]
    refine congrArg (fun z => Sum.inr (ci, z)) (ax_flds_cong _ _ (fun j => rfl) (fun j => rfl) (fun j => ?_))
    show (if ax_z σ1 = ax_z σ1 then none else ax_P σ1 (ax_z σ1) j).map _ = (if ax_z σ1 = ax_z σ1 then none else ax_P σ1 (ax_z σ1) j).map _
    rw [if_pos rfl]
    rfl
  exact kk q H1 (zz_grow h hz (by rw [hcell]; exact hP) (by rw [hcell]; exact hD) hS)
/-- a constructor, in the first world -/
theorem zz_I {ret : Option FieldType} (C : OKC Γ cL_law RL ret) (h : zz_2 Γ a1 a2 σ1 σ2 H locs) (as : List Value) {x index maxL n fr' lo' : Nat} {y : MethodName} {bytes : ByteArray}
    (hM : Met (cx_l Γ) y (.code y bytes maxL none :: ax_ALL) { frames := fr', cells := ax_nc τ - ax_nc σ1, slots := ax_ns τ - ax_ns σ1, locals := lo' } (ax_Pc (cx_D Γ) (cx_dA Γ) (cx_B Γ) a1 (.ref x :: as) σ1 H.size) (ax_Qc (cx_D Γ) (cx_dA Γ) (va_A (ax_ws (cx_dA Γ) a1 σ1) H.size) a1 σ1 (.inl none, τ)) (ax_nc τ - ax_nc σ1) (ax_ns τ - ax_ns σ1) (va_A (ax_ws (cx_dA Γ) a1 σ1) H.size))
    (Lk : ax_VL RL index y bytes maxL none n) (hn : as.length = n) (I : Cond.instanceMethod y ∈ ax_ALL) (hy : y.name = "<init>") (hst0 : ax_st σ1 (.ref x :: as)) (hls : ls.size = cx_nL Γ) (hroom : fr' + 1 ≤ cx_fr Γ ∧ 8 + (maxL + 11) + lo' ≤ cx_lo Γ) (hst : (rest.map fun v => v.category).sum ≤ 8)
    (hf : cells + (ax_nc τ - ax_nc σ1) ≤ (cx_R Γ zz_r).cells ∧ slots + (ax_ns τ - ax_ns σ1) ≤ (cx_R Γ zz_r).slots) (hdg : decode cL_law pc = .ok (.invokespecial index, 3))
    (kk : ∀ (a3 : Nat → Nat) (H1 : Heap) (locs1 : List Loc), (∀ k, k < ax_z σ1 ∨ 1000000 ≤ k → a3 k = a1 k) → zz_2 Γ a3 a2 τ σ2 H1 locs1 → W (cx_p Γ) (cx_l Γ) (cx_e Γ) (cx_R Γ zz_r) (cx_s Γ) (cx_m Γ) (cx_a Γ) (cx_below Γ) (cx_meth Γ) (cx_c Γ) H1 locs1 (cells + (ax_nc τ - ax_nc σ1)) (slots + (ax_ns τ - ax_ns σ1)) Q (F0 (cx_m Γ) (pc + 3) ls rest)) :
    W (cx_p Γ) (cx_l Γ) (cx_e Γ) (cx_R Γ zz_r) (cx_s Γ) (cx_m Γ) (cx_a Γ) (cx_below Γ) (cx_meth Γ) (cx_c Γ) H locs cells slots Q (F0 (cx_m Γ) pc ls ((as.map (ax_cv a1)).reverse ++ .ref (a1 x) :: rest)) := by
  have hr := va_runI (rest := rest) (g := F0 (cx_m Γ) pc ls ((as.map (ax_cv a1)).reverse ++ .ref (a1 x) :: rest)) (ax_fix C) hM (b := a1 x) (As := as.map (ax_cv a1)) (R := cx_R Γ zz_r) (H := H) (locs := locs) (cells := cells) (slots := slots) (e := cx_e Γ) (below := cx_below Γ) (meth := cx_meth Γ) (n := n)
    ⟨ax_callB C.2.2.2.1 Lk hroom, hy, C.2.2.2.1 _ I⟩
    ⟨ax_Pc.blind, fun U hU hW => ax_pre C h.2.2.1 h.2.2.2.2.2.1 h.2.2.2.2.2.2.1 hst0 h.1 U hU hW⟩ rfl (by rw [List.length_map]; exact hn) hls rfl (by show 2 * 0 + (rest.map fun v => v.category).sum ≤ 8; omega) hdg hf
  exact zz_run C h hr (fun a3 H1 locs1 had h5 => kk a3 H1 locs1 had h5)
end ZZN
