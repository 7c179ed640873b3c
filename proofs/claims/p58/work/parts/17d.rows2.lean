/-! MORE CALLS: a static method's throw caught; methods that read the script -/
def cG (σ : AS) (x : Option AR) (hh : List (String × Int32 × (Nat × Nat × Nat × Nat))) (g : Option Value → AS → Option AR) : Option AR := match x with
  | some (.inl v, τ) => if ax_le σ τ then g v τ else none
  | some (.inr E, τ) => if ax_le σ τ then hF hh E τ else none
  | none => none
def cR (σ : AS) (x : Option AR) (g : Option Value → AS → Option AR) : Option AR := match x with
  | some (.inl v, τ) => if ax_le σ τ then g v τ else none
  | _ => none
def rW (v : Int32) (σ : AS) : Option AR := if (v = 0 ∨ v = 1) ∧ ax_nc σ ≤ 410000 ∧ ax_ns σ ≤ 2020000 then some (.inl (some (.int v)), ax_use σ (410000 - ax_nc σ) (2020000 - ax_ns σ)) else none
theorem zz_met {l : Launch} {D : va_G} {dA : Nat → ClassId} {B0 fr lo : Nat} {y : MethodName} {ws : List Cond} {as : List Value} {F : AS → Option AR} {ad : Nat → Nat} {σ τ : AS} {v : Option Value} (h : Ct l D dA B0 y ws fr lo as F) (hF : F σ = some (.inl v, τ)) (sz : Nat) :
    Met l y ws { frames := fr, cells := ax_nc τ - ax_nc σ, slots := ax_ns τ - ax_ns σ, locals := lo } (ax_Pc D dA B0 ad as σ sz) (ax_Qc D dA (va_A (ax_ws dA ad σ) sz) ad σ (.inl v, τ)) (ax_nc τ - ax_nc σ) (ax_ns τ - ax_ns σ) (va_A (ax_ws dA ad σ) sz) :=
  MetFree.mono (h ad σ (.inl v, τ) hF sz) (fun _ _ q => q) (fun _ _ _ _ _ q => q) (fun a st o t _ hq => by
    rcases hq with hq | ⟨q, ho, E, ce, L, ⟨ad', hE, -⟩, -⟩
    · exact hq
    · cases hE)
theorem CtS.of {l : Launch} {D : va_G} {dA : Nat → ClassId} {B0 : Nat} {y : MethodName} {cc : ByteArray} {maxL fr lo : Nat} {ret : Option FieldType} {as : List Value} {F : Nat × (Nat → Int32) → AS → Option AR} (hl : l.stackTraces = false) (hy : plainName y.cls = true) (hlen : (lg_sl as).length ≤ maxL)
    (body : ∀ Γ : CX, OKC Γ cc y.cls ret → cx_l Γ = l → cx_D Γ = D → cx_dA Γ = dA → cx_B Γ = B0 → cx_nL Γ = maxL → cx_fr Γ = fr → cx_lo Γ = lo → (∀ z ∈ (cx_c Γ).exceptionTable.toList, False) → (cx_meth Γ).name = y.name → OK Γ 0 (lv_args 0 as) [] (F (ax_scr (cx_ad Γ)) (cx_w Γ)) (cx_w Γ)) : CtS l D dA B0 y (.code y cc maxL ret :: ax_ALL) fr lo as F := by
  intro ad σ r hr
  show ∀ sz : Nat, vx_Met l y (.code y cc maxL ret :: ax_ALL) { frames := fr, cells := ax_nc r.2 - ax_nc σ, slots := ax_ns r.2 - ax_ns σ, locals := lo } (ax_Pc D dA B0 ad as σ sz) (ax_Qc D dA (va_A (ax_ws dA ad σ) sz) ad σ r) (ax_Xc D dA (va_A (ax_ws dA ad σ) sz) ad σ r) (ax_nc r.2 - ax_nc σ) (ax_ns r.2 - ax_ns σ) (va_A (ax_ws dA ad σ) sz)
  · intro sz
    refine vx_ofW (cc := cc) (maxL := maxL) (ret := ret) hy rfl ?_
    intro p e s m args below meth c s₁ B hml htab hv
    obtain ⟨rfl, hsz, hR, hK, hB0, hKF, hcl, hst⟩ := hv
    subst hsz
    have hts : ∀ w ∈ ax_ALL, w.before (as.map (ax_cv ad)).toArray s = true := fun w hw => atoms_spec (ws := .code y cc maxL ret :: ax_ALL) B.pre w (List.mem_cons_of_mem _ hw)
    have hown : s.vm.findClass y.cls = some m.cls := findClass_of_methodNamed B.named
    have hAB : ∀ q, va_A (ax_ws dA ad σ) s.heap.size q → B0 ≤ q := by
      intro q hq
      rcases hq with ⟨i, e, hi⟩ | hq
      · exact hR.2.2 i (q, e) hi
      · exact Nat.le_trans hB0 hq
    have hok := body (p, l, e, s, m, (as.map (ax_cv ad)).toArray, below, meth, c, D, dA, B0, σ, ad, maxL, fr, lo)
      ⟨B.exec, B.bytes, hown, hts, hK, B.returns, B.notSynchronized, hml, hl, hKF, hB0, hAB⟩ rfl rfl rfl rfl rfl rfl rfl htab (name_of_methodNamed B.named B.method).1 r hr
    have hent := lv_entry (as.map (ax_cv ad)) (n := maxL) (by rw [ax_lgsl]; exact hlen)
    rw [lg_entry_eq]
    rw [ax_args] at hent
    have hw := hok.2 ad s.heap [] _ (Nat.le_refl _) (Nat.le_refl _) (Nat.le_refl _) (fun _ _ => rfl) ⟨hR.1, hR.2.self⟩ va_S.rf hent hcl (by
      have hlv : ∀ (as : List Value) (i : Nat), ax_st σ as → ax_lv σ (lv_args i as) := by
        intro as
        induction as with
        | nil => intro _ _ q hq; cases hq
        | cons v as ih =>
          intro i h q hq
          unfold lv_args at hq
          rcases List.mem_cons.mp hq with rfl | hq
          · exact h.1
          · exact ih _ h.2 q hq
      exact hlv as 0 hst) trivial
    have e1 : ax_nc σ - ax_nc σ = 0 := Nat.sub_self _
    have e2 : ax_ns σ - ax_ns σ = 0 := Nat.sub_self _
    have hw' := hw
    unfold cx_R cx_Q cx_A at hw'
    dsimp only [cx_w] at hw'
    rw [e1, e2] at hw'
    exact hw'
section OKX
variable {Γ : CX} {cc : ByteArray} {own : String} {ret : Option FieldType} {pc : Nat} {lv : List (Nat × Value)} {st : List Value} {σ : AS}
/-- a static method, its throws caught here -/
theorem ok_callSH (C : OKC Γ cc own (some .int)) (hh : List (String × Int32 × (Nat × Nat × Nat × Nat))) (HX : ∀ z ∈ hh, ax_HX own pc (cx_nL Γ) cc z) (HT : (cx_c Γ).exceptionTable.toList = tableOf (hh.map fun z => z.2.2)) (As : List Value) {index maxL n fr' lo' : Nat} {y : MethodName} {bytes : ByteArray} {ret' : Option FieldType} {F : AS → Option AR}
    (hM : Ct (cx_l Γ) (cx_D Γ) (cx_dA Γ) (cx_B Γ) y (.code y bytes maxL ret' :: ax_ALL) fr' lo' As F) (L : ax_VL own index y bytes maxL ret' n) (I : Cond.static y ∈ ax_ALL) (hn : As.length = n)
    (hroom : fr' + 1 ≤ cx_fr Γ ∧ 8 + (maxL + 11) + lo' ≤ cx_lo Γ) (hst : (st.map fun v => v.category).sum ≤ 8) (hdg : decode cc pc = .ok (.invokestatic index, 3)) {g : Option Value → AS → Option AR}
    (k : ∀ v τ, OK Γ (pc + 3) lv (v.toList ++ st) (g v τ) τ) : OK Γ pc lv (As.reverse ++ st) (cG σ (F σ) hh g) σ := by
  refine ok_ranH (as := As) (rest := st) C HX HT (fun r r1 h1 ad H locs ls hls had h5 h6 h8 hs hf => ?_) (fun hs => (ax_st_split hs).2) k
  have hr := vx_runS (rest := st.map (ax_cv ad)) (g := F0 (cx_m Γ) pc ls ((As.reverse ++ st).map (ax_cv ad))) (ax_fix C) (hM ad σ r1 h1 H.size) (As := As.map (ax_cv ad)) (R := cx_R Γ r) (H := H) (locs := locs) (cells := ax_nc σ - ax_nc (cx_w Γ)) (slots := ax_ns σ - ax_ns (cx_w Γ)) (e := cx_e Γ) (below := cx_below Γ) (meth := cx_meth Γ) (n := n)
    ⟨ax_callB C.2.2.2.1 L hroom, C.2.2.2.1 _ I⟩
    ⟨ax_Pc.blind, fun U hU hW => ax_pre C h5 h6 h8 (ax_st_rev (ax_st_split hs).1) had U hU hW⟩ rfl (by rw [List.length_map]; exact hn) hls (by rw [List.map_append, List.map_reverse]) (ax_hd st hst _ _ _ _) hdg hf
  exact hr
/-- what is known of a call of a method with handlers -/
def ax_VW (own : String) (index : Nat) (y : MethodName) (bytes : ByteArray) (maxL : Nat) (ret : Option FieldType) (hh : List (Nat × Nat × Nat × Nat)) (n : Nat) : Prop :=
  Cond.methodLink own index y ∈ ax_ALL ∧ Cond.static y ∈ ax_ALL ∧ Cond.initialized y.cls ∈ ax_ALL ∧ Cond.codeWith y bytes maxL ret hh ∈ ax_ALL ∧ (y.cls ≠ "java/lang/invoke/MethodHandle" ∧ y.cls ≠ "java/lang/invoke/VarHandle" ∧ (parseMethodDescriptor y.desc).map (fun d => d.parameters.length) = some n)
theorem ok_callSW (C : OKC Γ cc own ret) (As : List Value) {index maxL n fr' lo' : Nat} {y : MethodName} {bytes : ByteArray} {ret' : Option FieldType} {hh : List (Nat × Nat × Nat × Nat)} {F : AS → Option AR}
    (hM : Ct (cx_l Γ) (cx_D Γ) (cx_dA Γ) (cx_B Γ) y (.codeWith y bytes maxL ret' hh :: ax_ALL) fr' lo' As F) (L : ax_VW own index y bytes maxL ret' hh n) (hn : As.length = n)
    (hroom : fr' + 1 ≤ cx_fr Γ ∧ 8 + (maxL + 11) + lo' ≤ cx_lo Γ) (hst : (st.map fun v => v.category).sum ≤ 8) (hdg : decode cc pc = .ok (.invokestatic index, 3)) {g : Option Value → AS → Option AR}
    (k : ∀ v τ, OK Γ (pc + 3) lv (v.toList ++ st) (g v τ) τ) : OK Γ pc lv (As.reverse ++ st) (cR σ (F σ) g) σ := by
  intro r hr
  obtain ⟨v, τ, hF, hm, hr⟩ : ∃ v τ, F σ = some (.inl v, τ) ∧ ax_le σ τ ∧ g v τ = some r := by
    unfold cR at hr
    split at hr
    · rename_i v τ hF
      split at hr
      · rename_i hm
        exact ⟨v, τ, hF, hm, hr⟩
      · cases hr
    · cases hr
  obtain ⟨m, w⟩ := k v τ r hr
  obtain ⟨m1, m2, m3⟩ := hm
  refine ⟨⟨Nat.le_trans m1 m.1, Nat.le_trans m2 m.2.1, Nat.le_trans m3 m.2.2⟩, fun ad H locs ls h1 h2 h3 h4 h5 h6 h7 h8 h9 h10 => ?_⟩
  have hAq := ax_inA h5 h6
  obtain ⟨w1, w2, w3, w4, w5⟩ := L
  have hrun := vx_runSW (rest := st.map (ax_cv ad)) (g := F0 (cx_m Γ) pc ls ((As.reverse ++ st).map (ax_cv ad))) (ax_fix C) (zz_met hM (ad := ad) hF H.size) (As := As.map (ax_cv ad)) (R := cx_R Γ r) (H := H) (locs := locs) (cells := ax_nc σ - ax_nc (cx_w Γ)) (slots := ax_ns σ - ax_ns (cx_w Γ)) (e := cx_e Γ) (below := cx_below Γ) (meth := cx_meth Γ) (n := n) (l := cx_l Γ)
    (vx_cwSW n C.2.2.2.1 (ax_goodIn' fun w hw => by
      unfold va_wsS at hw
      rcases List.mem_append.mp hw with hw | hw
      · rcases List.mem_cons.mp hw with rfl | hw
        · exact w1
        rcases List.mem_cons.mp hw with rfl | hw
        · exact w2
        rcases List.mem_cons.mp hw with rfl | hw
        · exact w3
        exact absurd hw List.not_mem_nil
      · rcases List.mem_cons.mp hw with rfl | hw
        · exact w4
        exact hw) rfl rfl rfl w5 hroom)
    ⟨ax_Pc.blind, fun U hU hW => ax_pre C h5 h6 h8 (ax_st_rev (ax_st_split h10).1) (fun z hz => h4 z (Or.inr hz)) U hU hW⟩ rfl (by rw [List.length_map]; exact hn) h7.1 (by rw [List.map_append, List.map_reverse]) (ax_hd st hst _ _ _ _) hdg (by have := m.1; have := m.2.1; constructor <;> dsimp only <;> omega)
  intro T0 hT0 X
  obtain ⟨v', st₀, t, T', L, h0, X', hL, e1, e2, ⟨ad', v9, hv, ho, had, hR, hF', hcl, hsv⟩, stp⟩ := hrun T0 hT0 X
  cases hv
  cases ho
  obtain ⟨k1, k2, k3⟩ := vx_keep h0 e1 h6 (fun q _ hq => hAq q hq) hAq hL hF'
  have hw := w ad' T'.heap (locs ++ L) ls (Nat.le_trans h1 m1) (Nat.le_trans h2 m2) (Nat.le_trans h3 m3) (fun z hz => (had z (hz.imp (fun q => Nat.lt_of_lt_of_le q h3) id)).trans (h4 z hz)) ⟨by rw [e1]; exact hR.1, hR.2.weaken (fun _ q _ h => hAq q.1 h)⟩ k3 (by rw [ax_lv_cong had h9]; exact h7) hcl (ax_lv_mono m3 h9) (ax_st_app hsv (ax_st_mono m3 (ax_st_split h10).2))
  rw [List.map_append, ax_st_cong had (ax_st_split h10).2] at hw
  have hlist : (v.toList).map (ax_cv ad') = (v.map (ax_cv ad')).toList := by cases v <;> rfl
  rw [hlist] at hw
  have ea : ax_nc σ - ax_nc (cx_w Γ) + (ax_nc τ - ax_nc σ) = ax_nc τ - ax_nc (cx_w Γ) := by omega
  have eb : ax_ns σ - ax_ns (cx_w Γ) + (ax_ns τ - ax_ns σ) = ax_ns τ - ax_ns (cx_w Γ) := by omega
  rw [ea, eb] at X'
  obtain ⟨t2, a1, b1⟩ := hw T' rfl X'
  exact ⟨t2, stp t2 a1, b1⟩
/-- the law's own end: it takes all the room that the claim gives -/
theorem ok_wreturn (C : OKC Γ cc own (some .boolean)) {v : Int32} (hdg : decode cc pc = .ok (.ireturn, 1)) : OK Γ pc lv [.int v] (rW v σ) σ := by
  intro r hr
  unfold rW at hr
  split at hr
  case isFalse => cases hr
  case isTrue hv =>
  cases hr
  obtain ⟨hv, hc, hs⟩ := hv
  have m1 : ax_nc (ax_use σ (410000 - ax_nc σ) (2020000 - ax_ns σ)) = ax_nc σ + (410000 - ax_nc σ) := rfl
  have m2 : ax_ns (ax_use σ (410000 - ax_nc σ) (2020000 - ax_ns σ)) = ax_ns σ + (2020000 - ax_ns σ) := rfl
  refine ⟨⟨by dsimp only; omega, by dsimp only; omega, Nat.le_refl _⟩, fun ad H locs ls h1 h2 h3 h4 h5 h6 h7 h8 h9 h10 => ?_⟩
  obtain ⟨e1, e2, e3, e4, e5, e6, e7, -⟩ := C
  refine W.widen (k := ax_nc (ax_use σ (410000 - ax_nc σ) (2020000 - ax_ns σ)) - ax_nc (cx_w Γ)) (n := ax_ns (ax_use σ (410000 - ax_nc σ) (2020000 - ax_ns σ)) - ax_ns (cx_w Γ)) (by omega) (by omega) ?_
  exact vx_ret (W.zret (v := v) e1 e2 e6 (by rcases hv with e | e <;> rw [e] <;> rfl) (fun t ht hW => ⟨ad, some (.int v), rfl, rfl, h4, (by
    rw [show ((Sum.inl (some (Value.int v)), ax_use σ (410000 - ax_nc σ) (2020000 - ax_ns σ)) : AR).2 = ax_use σ (410000 - ax_nc σ) (2020000 - ax_ns σ) from rfl]
    unfold ax_Rep
    rw [ax_ws_use]
    exact ⟨by rw [ht]; exact h5.1, h5.2⟩), h6.F ht, h8, h10⟩) h6.2.2 hdg e7)
theorem ok_callVX (C : OKC Γ cc own ret) (T : ∀ z ∈ (cx_c Γ).exceptionTable.toList, False) (As : List Value) {b ci index maxL n fr' lo' : Nat} {y : MethodName} {bytes : ByteArray} {ret' : Option FieldType} {F : Nat × (Nat → Int32) → AS → Option AR} {sc : Nat × (Nat → Int32)} (hsc : ax_scr (cx_ad Γ) = sc) {C0 : String} {T0 : u_T} {N0 : Nat}
    (hM : CtS (cx_l Γ) (cx_D Γ) (cx_dA Γ) (cx_B Γ) y (.code y bytes maxL ret' :: ax_ALL) fr' lo' (.ref b :: As) F) (L : ax_VL own index y bytes maxL ret' n) (I : ax_VI y) (hc : vwCl[ci]? = some (C0, T0, N0)) (hy : y.cls = C0) (hci : ci < 100) (hn : As.length = n)
    (hroom : fr' + 1 ≤ cx_fr Γ ∧ 8 + (maxL + 11) + lo' ≤ cx_lo Γ) (hst : (st.map fun v => v.category).sum ≤ 8) (hdg : decode cc pc = .ok (.invokevirtual index, 3)) {g : Option Value → AS → Option AR}
    (k : ∀ v τ, OK Γ (pc + 3) lv (v.toList ++ st) (g v τ) τ) : OK Γ pc lv (As.reverse ++ .ref b :: st) (cV σ b ci (F sc σ) g) σ := by
  by_cases h : b < ax_z σ ∧ (ax_H σ b).1 = ci
  case neg =>
    intro r hr
    unfold cV at hr
    rw [if_neg h] at hr
    cases hr
  unfold cV
  rw [if_pos h]
  refine ok_ran (as := .ref b :: As) (rest := st) C T (fun r r1 h1 ad H locs ls hls had h5 h6 h8 hs hf => ?_) (fun hs => (ax_st_split hs).2.2) k
  have hsa : ax_st σ (.ref b :: As) := ⟨(ax_st_split hs).2.1, ax_st_rev (ax_st_split hs).1⟩
  have hr := vx_runV (rest := st.map (ax_cv ad)) (g := F0 (cx_m Γ) pc ls ((As.reverse ++ .ref b :: st).map (ax_cv ad))) (ax_fix C) (hM ad σ r1 (by rw [ax_scr_at had, hsc]; exact h1) H.size) (C := y.cls) (b := ad b) (As := As.map (ax_cv ad)) (R := cx_R Γ r) (H := H) (locs := locs) (cells := ax_nc σ - ax_nc (cx_w Γ)) (slots := ax_ns σ - ax_ns (cx_w Γ)) (e := cx_e Γ) (below := cx_below Γ) (meth := cx_meth Γ) (n := n)
    ⟨ax_callB C.2.2.2.1 L hroom, C.2.2.2.1 _ I.1, C.2.2.2.1 _ I.2⟩
    ⟨ax_Pc.blind, by
      obtain ⟨cell, x1, x2, x3⟩ := va_recv C.2.2.2.2.1 h5.1 hc (q0 := b) (fs := ax_flds ad σ b (ax_tags ci) 0) ((ax_ws_get h.1).trans (by rw [ax_cell_o h.2 hci]))
      exact ⟨cell, x1, x2, by rw [hy]; exact x3⟩, fun U hU hW => ax_pre C h5 h6 h8 hsa had U hU hW⟩ rfl (by rw [List.length_map]; exact hn) hls (by rw [List.map_append, List.map_reverse]; rfl) (ax_hd st hst _ _ _ _) hdg hf
  exact hr
theorem ok_callSX (C : OKC Γ cc own ret) (T : ∀ z ∈ (cx_c Γ).exceptionTable.toList, False) (As : List Value) {index maxL n fr' lo' : Nat} {y : MethodName} {bytes : ByteArray} {ret' : Option FieldType} {F : Nat × (Nat → Int32) → AS → Option AR} {sc : Nat × (Nat → Int32)} (hsc : ax_scr (cx_ad Γ) = sc)
    (hM : CtS (cx_l Γ) (cx_D Γ) (cx_dA Γ) (cx_B Γ) y (.code y bytes maxL ret' :: ax_ALL) fr' lo' As F) (L : ax_VL own index y bytes maxL ret' n) (I : Cond.static y ∈ ax_ALL) (hn : As.length = n)
    (hroom : fr' + 1 ≤ cx_fr Γ ∧ 8 + (maxL + 11) + lo' ≤ cx_lo Γ) (hst : (st.map fun v => v.category).sum ≤ 8) (hdg : decode cc pc = .ok (.invokestatic index, 3)) {g : Option Value → AS → Option AR}
    (k : ∀ v τ, OK Γ (pc + 3) lv (v.toList ++ st) (g v τ) τ) : OK Γ pc lv (As.reverse ++ st) (cS σ (F sc σ) g) σ := by
  refine ok_ran (as := As) (rest := st) C T (fun r r1 h1 ad H locs ls hls had h5 h6 h8 hs hf => ?_) (fun hs => (ax_st_split hs).2) k
  have hr := vx_runS (rest := st.map (ax_cv ad)) (g := F0 (cx_m Γ) pc ls ((As.reverse ++ st).map (ax_cv ad))) (ax_fix C) (hM ad σ r1 (by rw [ax_scr_at had, hsc]; exact h1) H.size) (As := As.map (ax_cv ad)) (R := cx_R Γ r) (H := H) (locs := locs) (cells := ax_nc σ - ax_nc (cx_w Γ)) (slots := ax_ns σ - ax_ns (cx_w Γ)) (e := cx_e Γ) (below := cx_below Γ) (meth := cx_meth Γ) (n := n)
    ⟨ax_callB C.2.2.2.1 L hroom, C.2.2.2.1 _ I⟩
    ⟨ax_Pc.blind, fun U hU hW => ax_pre C h5 h6 h8 (ax_st_rev (ax_st_split hs).1) had U hU hW⟩ rfl (by rw [List.length_map]; exact hn) hls (by rw [List.map_append, List.map_reverse]) (ax_hd st hst _ _ _ _) hdg hf
  exact hr
theorem ok_callIX (C : OKC Γ cc own ret) (T : ∀ z ∈ (cx_c Γ).exceptionTable.toList, False) (As : List Value) {b index maxL n fr' lo' : Nat} {y : MethodName} {bytes : ByteArray} {F : Nat × (Nat → Int32) → AS → Option AR} {sc : Nat × (Nat → Int32)} (hsc : ax_scr (cx_ad Γ) = sc)
    (hM : CtS (cx_l Γ) (cx_D Γ) (cx_dA Γ) (cx_B Γ) y (.code y bytes maxL none :: ax_ALL) fr' lo' (.ref b :: As) F) (L : ax_VL own index y bytes maxL none n) (I : Cond.instanceMethod y ∈ ax_ALL) (hy : y.name = "<init>") (hn : As.length = n)
    (hroom : fr' + 1 ≤ cx_fr Γ ∧ 8 + (maxL + 11) + lo' ≤ cx_lo Γ) (hst : (st.map fun v => v.category).sum ≤ 8) (hdg : decode cc pc = .ok (.invokespecial index, 3)) {g : Option Value → AS → Option AR}
    (k : ∀ v τ, OK Γ (pc + 3) lv (v.toList ++ st) (g v τ) τ) : OK Γ pc lv (As.reverse ++ .ref b :: st) (cS σ (F sc σ) g) σ := by
  refine ok_ran (as := .ref b :: As) (rest := st) C T (fun r r1 h1 ad H locs ls hls had h5 h6 h8 hs hf => ?_) (fun hs => (ax_st_split hs).2.2) k
  have hsa : ax_st σ (.ref b :: As) := ⟨(ax_st_split hs).2.1, ax_st_rev (ax_st_split hs).1⟩
  have hr := vx_runI (rest := st.map (ax_cv ad)) (g := F0 (cx_m Γ) pc ls ((As.reverse ++ .ref b :: st).map (ax_cv ad))) (ax_fix C) (hM ad σ r1 (by rw [ax_scr_at had, hsc]; exact h1) H.size) (b := ad b) (As := As.map (ax_cv ad)) (R := cx_R Γ r) (H := H) (locs := locs) (cells := ax_nc σ - ax_nc (cx_w Γ)) (slots := ax_ns σ - ax_ns (cx_w Γ)) (e := cx_e Γ) (below := cx_below Γ) (meth := cx_meth Γ) (n := n)
    ⟨ax_callB C.2.2.2.1 L hroom, hy, C.2.2.2.1 _ I⟩
    ⟨ax_Pc.blind, fun U hU hW => ax_pre C h5 h6 h8 hsa had U hU hW⟩ rfl (by rw [List.length_map]; exact hn) hls (by rw [List.map_append, List.map_reverse]; rfl) (ax_hd st hst _ _ _ _) hdg hf
  exact hr
end OKX
