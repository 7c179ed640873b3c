/-! THE LAW: its calls -/
/-- what is known of a call of one of the law's own wrappers -/
def zz_VS (index : Nat) (y : MethodName) (bytes : ByteArray) (maxL : Nat) (ret : Option FieldType) (hh : List (Nat × Nat × Nat × Nat)) (n : Nat) : Prop :=
  Cond.methodLink RL index y ∈ ax_ALL ∧ Cond.static y ∈ ax_ALL ∧ Cond.initialized y.cls ∈ ax_ALL ∧ Cond.codeWith y bytes maxL ret hh ∈ ax_ALL ∧ (y.cls ≠ "java/lang/invoke/MethodHandle" ∧ y.cls ≠ "java/lang/invoke/VarHandle" ∧ (parseMethodDescriptor y.desc).map (fun d => d.parameters.length) = some n)
section ZZC
variable {Γ : CX} {b L : Nat} {xs : Nat → Int32} {Q : State → Prop} {pc : Nat} {lv : List (Nat × Value)} {st : List Value} {σ1 σ2 τ : AS} {x : Value}
theorem zz_room (C : zz_C Γ b L xs) : (cx_R Γ zz_r).cells = 601024 ∧ (cx_R Γ zz_r).slots = 7293033 := by
  obtain ⟨-, ⟨-, -, -, hw⟩, -⟩ := C
  constructor
  · show ax_nc zz_r.2 - ax_nc (cx_w Γ) = _
    rw [hw]; rfl
  · show ax_ns zz_r.2 - ax_ns (cx_w Γ) = _
    rw [hw]; rfl
theorem zz_ad_eq {a1 a2 a3 : Nat → Nat} {n : Nat} (hn : 457 ≤ n) (h : ∀ k, k < n ∨ 1000000 ≤ k → a3 k = a1 k) : zz_ad b a3 a2 = zz_ad b a1 a2 := by
  funext k
  unfold zz_ad
  rw [h 0 (by omega), h 455 (by omega), h 456 (by omega)]
theorem zz_ad_eq2 {a1 a2 a3 : Nat → Nat} {n : Nat} (hn : 0 < n) (h : ∀ k, k < n ∨ 1000000 ≤ k → a3 k = a2 k) : zz_ad b a1 a3 = zz_ad b a1 a2 := by
  funext k
  unfold zz_ad
  rw [h 0 (by omega)]
theorem zz_vl {x : Value} {st : List Value} (hv : ∀ ad : Nat → Nat, ax_cv ad x = x) (a a' : Nat → Nat) : ((some x).map (ax_cv a)).toList ++ st.map (ax_cv a') = (x :: st).map (ax_cv a') := by
  show ax_cv a x :: st.map (ax_cv a') = ax_cv a' x :: st.map (ax_cv a')
  rw [hv, hv]
/-- a wrapper -/
theorem zz_S (C : zz_C Γ b L xs) (As as : List Value) {index maxL n fr' lo' : Nat} {y : MethodName} {bytes : ByteArray} {ret' : Option FieldType} {hh : List (Nat × Nat × Nat × Nat)} {F : AS → Option AR}
    (hM : Ct (cx_l Γ) (cx_D Γ) (cx_dA Γ) (cx_B Γ) y (.codeWith y bytes maxL ret' hh :: ax_ALL) fr' lo' as F) (W1 : zz_VS index y bytes maxL ret' hh n) (hF : F σ1 = some (.inl (some x), τ)) (hle : ax_le σ1 τ) (hv : ∀ ad : Nat → Nat, ax_cv ad x = x)
    (hcap : ax_nc τ + ax_nc σ2 ≤ 601024 ∧ ax_ns τ + ax_ns σ2 ≤ 7293033) (has : ∀ a1 a2 : Nat → Nat, As.map (ax_cv (zz_ad b a1 a2)) = as.map (ax_cv a1)) (hsv : 457 ≤ ax_z σ1 → ax_st σ1 as) (hn : as.length = n) (hroom : fr' + 1 ≤ 2048 ∧ 8 + (maxL + 11) + lo' ≤ 84000) (hst : (st.map fun v => v.category).sum ≤ 8)
    (hdg : decode cL_law pc = .ok (.invokestatic index, 3)) (k : LW Γ b Q (pc + 3) lv (x :: st) τ σ2) : LW Γ b Q pc lv (As.reverse ++ st) σ1 σ2 := by
  intro a1 a2 H locs ls h1 h2 h3 h4
  obtain ⟨w1, w2, w3, w4, w5⟩ := W1
  obtain ⟨r1, r2⟩ := zz_room C
  obtain ⟨m1, m2, m3⟩ := hle
  have hr := vx_runSW (rest := st.map (ax_cv (zz_ad b a1 a2))) (g := F0 (cx_m Γ) pc ls ((As.reverse ++ st).map (ax_cv (zz_ad b a1 a2)))) (ax_fix C.1) (zz_met hM (ad := a1) hF H.size) (As := as.map (ax_cv a1)) (R := cx_R Γ zz_r) (H := H) (locs := locs) (cells := ax_nc σ1 + ax_nc σ2) (slots := ax_ns σ1 + ax_ns σ2) (e := cx_e Γ) (below := cx_below Γ) (meth := cx_meth Γ) (n := n) (l := cx_l Γ)
    (vx_cwSW n C.1.2.2.2.1 (ax_goodIn' fun w hw => by
      unfold va_wsS at hw
      rcases List.mem_append.mp hw with hw | hw
      · rcases List.mem_cons.mp hw with rfl | hw
        · exact w1
        rcases List.mem_cons.mp hw with rfl | hw
        · exact w2
        rcases List.mem_cons.mp hw with rfl | hw
        · exact w3
        exact absurd hw List.not_mem_nil
      · rcases List.mem_cons.mp hw with rfl | hw
        · exact w4
        exact hw) rfl rfl rfl w5 (by
      show fr' + 1 ≤ cx_fr Γ ∧ 8 + (maxL + 11) + lo' ≤ cx_lo Γ
      rw [C.2.1.2.1, C.2.1.2.2.1]; exact hroom))
    ⟨ax_Pc.blind, fun U hU hW => ax_pre C.1 h1.2.2.1 h1.2.2.2.2.2.1 h1.2.2.2.2.2.2.1 (hsv h2) h1.1 U hU hW⟩ rfl (by rw [List.length_map]; exact hn) h4.1 (by show (As.reverse ++ st).map _ = _; rw [List.map_append, List.map_reverse, has]) (ax_hd st hst _ _ _ _) hdg (by rw [r1, r2]; omega)
  refine zz_run C.1 h1 hr (fun a3 H1 locs1 had h5 => ?_)
  have ez := zz_ad_eq (b := b) (a2 := a2) h2 had
  have hw := k a3 a2 H1 locs1 ls h5 (Nat.le_trans h2 m3) h3 (by rw [ez]; exact h4)
  rw [ez, ← zz_vl hv a3] at hw
  have e1 : ax_nc σ1 + ax_nc σ2 + (ax_nc τ - ax_nc σ1) = ax_nc τ + ax_nc σ2 := by omega
  have e2 : ax_ns σ1 + ax_ns σ2 + (ax_ns τ - ax_ns σ1) = ax_ns τ + ax_ns σ2 := by omega
  rw [e1, e2]
  exact hw
/-- a method of the class's object itself -/
theorem zz_V1 (C : zz_C Γ b L xs) (As : List Value) {index maxL n fr' lo' : Nat} {y : MethodName} {bytes : ByteArray} {ret' : Option FieldType} {F : AS → Option AR} {T0 : u_T} {N0 : Nat} {C0 : String}
    (hM : Ct (cx_l Γ) (cx_D Γ) (cx_dA Γ) (cx_B Γ) y (.code y bytes maxL ret' :: ax_ALL) fr' lo' (.ref 0 :: As) F) (Lk : ax_VL RL index y bytes maxL ret' n) (I : ax_VI y) (hc : vwCl[10]? = some (C0, T0, N0)) (hy : y.cls = C0) (hb : (ax_H σ1 0).1 = 10) (hF : F σ1 = some (.inl (some x), τ)) (hle : ax_le σ1 τ) (hv : ∀ ad : Nat → Nat, ax_cv ad x = x)
    (hcap : ax_nc τ + ax_nc σ2 ≤ 601024 ∧ ax_ns τ + ax_ns σ2 ≤ 7293033) (has : ∀ ad : Nat → Nat, As.map (ax_cv ad) = As) (hsv : ax_st σ1 As) (hn : As.length = n) (hroom : fr' + 1 ≤ 2048 ∧ 8 + (maxL + 11) + lo' ≤ 84000) (hst : (st.map fun v => v.category).sum ≤ 8)
    (hdg : decode cL_law pc = .ok (.invokevirtual index, 3)) (k : LW Γ b Q (pc + 3) lv (x :: st) τ σ2) : LW Γ b Q pc lv (As.reverse ++ .ref 1 :: st) σ1 σ2 := by
  intro a1 a2 H locs ls h1 h2 h3 h4
  obtain ⟨r1, r2⟩ := zz_room C
  obtain ⟨m1, m2, m3⟩ := hle
  have hsa : ax_st σ1 (.ref 0 :: As) := ⟨Or.inl (Nat.lt_of_lt_of_le (by decide) h2), hsv⟩
  have hr := va_runV (rest := st.map (ax_cv (zz_ad b a1 a2))) (g := F0 (cx_m Γ) pc ls ((As.reverse ++ .ref 1 :: st).map (ax_cv (zz_ad b a1 a2)))) (ax_fix C.1) (zz_met hM (ad := a1) hF H.size) (C := y.cls) (b := a1 0) (As := As.map (ax_cv a1)) (R := cx_R Γ zz_r) (H := H) (locs := locs) (cells := ax_nc σ1 + ax_nc σ2) (slots := ax_ns σ1 + ax_ns σ2) (e := cx_e Γ) (below := cx_below Γ) (meth := cx_meth Γ) (n := n) (l := cx_l Γ)
    ⟨ax_callB C.1.2.2.2.1 Lk (by rw [C.2.1.2.1, C.2.1.2.2.1]; exact hroom), C.1.2.2.2.1 _ I.1, C.1.2.2.2.1 _ I.2⟩
    ⟨ax_Pc.blind, by
      obtain ⟨cell, x1, x2, x3⟩ := va_recv C.1.2.2.2.2.1 h1.2.2.1.1 hc (q0 := 0) (fs := ax_flds a1 σ1 0 (ax_tags 10) 0) ((ax_ws_get (by omega)).trans (by rw [ax_cell_o hb (by decide)]))
      exact ⟨cell, x1, x2, by rw [hy]; exact x3⟩, fun U hU hW => ax_pre C.1 h1.2.2.1 h1.2.2.2.2.2.1 h1.2.2.2.2.2.2.1 hsa h1.1 U hU hW⟩ rfl (by rw [List.length_map]; exact hn) h4.1 (by
      show (As.reverse ++ .ref 1 :: st).map _ = _
      rw [List.map_append, List.map_reverse, has, has]
      rfl) (ax_hd st hst _ _ _ _) hdg (by rw [r1, r2]; omega)
  refine zz_run C.1 h1 hr (fun a3 H1 locs1 had h5 => ?_)
  have ez := zz_ad_eq (b := b) (a2 := a2) h2 had
  have hw := k a3 a2 H1 locs1 ls h5 (Nat.le_trans h2 m3) h3 (by rw [ez]; exact h4)
  rw [ez, ← zz_vl hv a3] at hw
  have e1 : ax_nc σ1 + ax_nc σ2 + (ax_nc τ - ax_nc σ1) = ax_nc τ + ax_nc σ2 := by omega
  have e2 : ax_ns σ1 + ax_ns σ2 + (ax_ns τ - ax_ns σ1) = ax_ns τ + ax_ns σ2 := by omega
  rw [e1, e2]
  exact hw
/-- a method of the model -/
theorem zz_V2 (C : zz_C Γ b L xs) (As : List Value) {index maxL n fr' lo' : Nat} {y : MethodName} {bytes : ByteArray} {ret' : Option FieldType} {F : AS → Option AR} {T0 : u_T} {N0 : Nat} {C0 : String}
    (hM : Ct (cx_l Γ) (cx_D Γ) (cx_dA Γ) (cx_B Γ) y (.code y bytes maxL ret' :: ax_ALL) fr' lo' (.ref 0 :: As) F) (Lk : ax_VL RL index y bytes maxL ret' n) (I : ax_VI y) (hc : vwCl[11]? = some (C0, T0, N0)) (hy : y.cls = C0) (hb : (ax_H σ2 0).1 = 11) (hF : F σ2 = some (.inl (some x), τ)) (hle : ax_le σ2 τ) (hv : ∀ ad : Nat → Nat, ax_cv ad x = x)
    (hcap : ax_nc σ1 + ax_nc τ ≤ 601024 ∧ ax_ns σ1 + ax_ns τ ≤ 7293033) (has : ∀ ad : Nat → Nat, As.map (ax_cv ad) = As) (hsv : ax_st σ2 As) (hn : As.length = n) (hroom : fr' + 1 ≤ 2048 ∧ 8 + (maxL + 11) + lo' ≤ 84000) (hst : (st.map fun v => v.category).sum ≤ 8)
    (hdg : decode cL_law pc = .ok (.invokevirtual index, 3)) (k : LW Γ b Q (pc + 3) lv (x :: st) σ1 τ) : LW Γ b Q pc lv (As.reverse ++ .ref 2 :: st) σ1 σ2 := by
  intro a1 a2 H locs ls h1 h2 h3 h4
  obtain ⟨r1, r2⟩ := zz_room C
  obtain ⟨m1, m2, m3⟩ := hle
  have hsa : ax_st σ2 (.ref 0 :: As) := ⟨Or.inl h3, hsv⟩
  have h1' := h1.swap
  have hr := va_runV (rest := st.map (ax_cv (zz_ad b a1 a2))) (g := F0 (cx_m Γ) pc ls ((As.reverse ++ .ref 2 :: st).map (ax_cv (zz_ad b a1 a2)))) (ax_fix C.1) (zz_met hM (ad := a2) hF H.size) (C := y.cls) (b := a2 0) (As := As.map (ax_cv a2)) (R := cx_R Γ zz_r) (H := H) (locs := locs) (cells := ax_nc σ1 + ax_nc σ2) (slots := ax_ns σ1 + ax_ns σ2) (e := cx_e Γ) (below := cx_below Γ) (meth := cx_meth Γ) (n := n) (l := cx_l Γ)
    ⟨ax_callB C.1.2.2.2.1 Lk (by rw [C.2.1.2.1, C.2.1.2.2.1]; exact hroom), C.1.2.2.2.1 _ I.1, C.1.2.2.2.1 _ I.2⟩
    ⟨ax_Pc.blind, by
      obtain ⟨cell, x1, x2, x3⟩ := va_recv C.1.2.2.2.2.1 h1'.2.2.1.1 hc (q0 := 0) (fs := ax_flds a2 σ2 0 (ax_tags 11) 0) ((ax_ws_get h3).trans (by rw [ax_cell_o hb (by decide)]))
      exact ⟨cell, x1, x2, by rw [hy]; exact x3⟩, fun U hU hW => ax_pre C.1 h1'.2.2.1 h1'.2.2.2.2.2.1 h1'.2.2.2.2.2.2.1 hsa h1'.1 U hU hW⟩ rfl (by rw [List.length_map]; exact hn) h4.1 (by
      show (As.reverse ++ .ref 2 :: st).map _ = _
      rw [List.map_append, List.map_reverse, has, has]
      rfl) (ax_hd st hst _ _ _ _) hdg (by rw [r1, r2]; omega)
  refine zz_run C.1 h1' hr (fun a3 H1 locs1 had h5 => ?_)
  have ez := zz_ad_eq2 (b := b) (a1 := a1) h3 had
  have hw := k a1 a3 H1 locs1 ls h5.swap h2 (Nat.lt_of_lt_of_le h3 m3) (by rw [ez]; exact h4)
  rw [ez, ← zz_vl hv a3] at hw
  have e1 : ax_nc σ1 + ax_nc σ2 + (ax_nc τ - ax_nc σ2) = ax_nc σ1 + ax_nc τ := by omega
  have e2 : ax_ns σ1 + ax_ns σ2 + (ax_ns τ - ax_ns σ2) = ax_ns σ1 + ax_ns τ := by omega
  rw [e1, e2]
  exact hw
end ZZC
/-! what calls leave takes no less room than what they found -/
theorem zl_uJ {σ : AS} {a : Nat} {i : Int32} {x : Int64} {r : AR} (h : uJ σ a i x (fun s3 => some (.inl (some (.int 0)), s3)) = some r) : ax_le σ r.2 := by
  unfold uJ at h
  split at h
  · cases h
    exact ⟨Nat.le_refl _, Nat.le_refl _, Nat.le_refl _⟩
  · cases h
theorem zl_uD {σ : AS} {a : Nat} {i : Int32} {x : UInt64} {r : AR} (h : uD σ a i x (fun s3 => some (.inl (some (.int 0)), s3)) = some r) : ax_le σ r.2 := by
  unfold uD at h
  split at h
  · cases h
    exact ⟨Nat.le_refl _, Nat.le_refl _, Nat.le_refl _⟩
  · cases h
theorem zl_hF {τ : AS} {E : String} {r : AR} : ∀ {hh : List (String × Int32 × (Nat × Nat × Nat × Nat))}, hF hh E τ = some r → r.2 = τ
  | [], h => by cases h
  | z :: hh, h => by
    unfold hF at h
    split at h
    · cases h
      rfl
    · exact zl_hF h
theorem zl_trans {σ τ υ : AS} (h : ax_le σ τ) (k : ax_le τ υ) : ax_le σ υ := ⟨Nat.le_trans h.1 k.1, Nat.le_trans h.2.1 k.2.1, Nat.le_trans h.2.2 k.2.2⟩
theorem zl_cH {σ : AS} {a ci : Nat} {x : Option AR} {hh : List (String × Int32 × (Nat × Nat × Nat × Nat))} {g : Option Value → AS → Option AR} {r : AR} (hg : ∀ v τ, g v τ = some r → ax_le τ r.2) (h : cH σ a ci x hh g = some r) : ax_le σ r.2 := by
  unfold cH at h
  split at h
  · match x, h with
    | some (.inl v, τ), h =>
      have h : (if ax_le σ τ then g v τ else none) = some r := h
      split at h
      · rename_i hl
        exact zl_trans hl (hg v τ h)
      · cases h
    | some (.inr E, τ), h =>
      have h : (if ax_le σ τ then hF hh E τ else none) = some r := h
      split at h
      · rename_i hl
        rw [zl_hF h]
        exact hl
      · cases h
    | none, h => cases h
  · cases h
theorem zl_I {σ : AS} {a ci a3 : Nat} {x : Option AR} {hh : List (String × Int32 × (Nat × Nat × Nat × Nat))} {r : AR} (h : cH σ a ci x hh (qI (fun v1 s2 => uJ s2 a3 0 (v1.toInt64) (fun s3 => some (.inl (some (.int 0)), s3)))) = some r) : ax_le σ r.2 :=
  zl_cH (fun v τ q => by
    rcases v with _ | v
    · cases q
    · cases v <;> first | exact zl_uJ q | cases q) h
theorem zl_Z {σ : AS} {a ci : Nat} {x : Option AR} {hh : List (String × Int32 × (Nat × Nat × Nat × Nat))} {f0 f1 : AS → Option AR} {r : AR} (h0 : ∀ τ, f0 τ = some r → ax_le τ r.2) (h1 : ∀ τ, f1 τ = some r → ax_le τ r.2) (h : cH σ a ci x hh (qI (fun v1 s2 => if v1 = 0 then f0 s2 else f1 s2)) = some r) : ax_le σ r.2 :=
  zl_cH (fun v τ q => by
    rcases v with _ | v
    · cases q
    · cases v <;> first | (rename_i i; have q : (if i = 0 then f0 τ else f1 τ) = some r := q; split at q; exact h0 τ q; exact h1 τ q) | cases q) h
theorem zl_D {σ : AS} {a ci a3 : Nat} {x : Option AR} {hh : List (String × Int32 × (Nat × Nat × Nat × Nat))} {r : AR} (h : cH σ a ci x hh (qD (fun v1 s2 => uD s2 a3 0 v1 (fun s3 => some (.inl (some (.int 0)), s3)))) = some r) : ax_le σ r.2 :=
  zl_cH (fun v τ q => by
    rcases v with _ | v
    · cases q
    · cases v <;> first | exact zl_uD q | cases q) h
theorem zl_F {σ : AS} {a ci a3 : Nat} {x : Option AR} {hh : List (String × Int32 × (Nat × Nat × Nat × Nat))} {r : AR} (h : cH σ a ci x hh (qF (fun y1 s2 => if FP.f2d y1 &&& 0x7fffffffffffffff ≤ 0x7ff0000000000000 then (uD s2 a3 0 (FP.f2d y1) (fun s3 => some (.inl (some (.int 0)), s3))) else none)) = some r) : ax_le σ r.2 :=
  zl_cH (fun v τ q => by
    rcases v with _ | v
    · cases q
    · cases v <;> first | (rename_i y; have q : (if FP.f2d y &&& 0x7fffffffffffffff ≤ 0x7ff0000000000000 then (uD τ a3 0 (FP.f2d y) (fun s3 => some (.inl (some (.int 0)), s3))) else none) = some r := q; split at q; exact zl_uD q; cases q) | cases q) h
theorem zl_gR {σ : AS} {a ci j : Nat} {k : Nat → Option AR} {r : AR} (h : ∀ q, k q = some r → ax_le σ r.2) (e : gR σ a ci j k = some r) : ax_le σ r.2 := by
  unfold gR at e
  split at e
  · split at e
    · exact h _ e
    · cases e
  · cases e
theorem zl_gI {σ : AS} {a ci j : Nat} {k : Int32 → Option AR} {r : AR} (h : ∀ q, k q = some r → ax_le σ r.2) (e : gI σ a ci j k = some r) : ax_le σ r.2 := by
  unfold gI at e
  split at e
  · exact h _ e
  · cases e
theorem zl_rf {σ : AS} {r : AR} {x : Option Value ⊕ String} (h : (some (x, σ) : Option AR) = some r) : ax_le σ r.2 := by
  cases h
  exact ⟨Nat.le_refl _, Nat.le_refl _, Nat.le_refl _⟩
theorem zl_cV {σ : AS} {a ci : Nat} {x : Option AR} {g : Option Value → AS → Option AR} {r : AR} (hg : ∀ v τ, g v τ = some r → ax_le τ r.2) (h : cV σ a ci x g = some r) : ax_le σ r.2 := by
  unfold cV cS at h
  split at h
  · match x, h with
    | some (.inl v, τ), h =>
      have h : (if ax_le σ τ then g v τ else none) = some r := h
      split at h
      · rename_i hl
        exact zl_trans hl (hg v τ h)
      · cases h
    | some (.inr E, τ), h =>
      have h : (if ax_le σ τ then some ((.inr E : Option Value ⊕ String), τ) else none) = some r := h
      split at h
      · rename_i hl
        cases h
        exact hl
      · cases h
    | none, h => cases h
  · cases h
theorem zl_parseError {σ : AS} {r : AR} (h : fX6_parseError 0 σ = some r) : ax_le σ r.2 := zl_gR (fun _ => zl_gI fun _ => zl_rf) h
theorem zl_errorPosition {σ : AS} {r : AR} (h : fX6_errorPosition 0 σ = some r) : ax_le σ r.2 := zl_gR (fun _ => zl_gI fun _ => zl_rf) h
theorem zl_buffered {σ : AS} {r : AR} (h : fX6_buffered 0 σ = some r) : ax_le σ r.2 := zl_gR (fun _ => zl_gI fun _ => zl_rf) h
theorem zl_undoable {σ : AS} {r : AR} (h : fX6_undoable 0 σ = some r) : ax_le σ r.2 := zl_gR (fun _ => zl_gI fun _ => zl_rf) h
theorem zl_append {σ : AS} {r : AR} {x1 x2 x3 x4 x5 : Int32} (h : fX6_append 0 x1 x2 x3 x4 x5 σ = some r) : ax_le σ r.2 :=
  zl_gR (fun _ => zl_cV fun v τ q => by
    rcases v with _ | v
    · cases q
    · cases v with
      | int i =>
        have q : (if i = 0 then some (.inl (some (.int (-1))), τ) else gR τ 0 10 0 (fun q4 => gI τ q4 6 2 (fun v5 => some (.inl (some (.int v5)), τ)))) = some r := q
        split at q
        · exact zl_rf q
        · exact zl_gR (fun _ => zl_gI fun _ => zl_rf) q
      | _ => cases q) h
