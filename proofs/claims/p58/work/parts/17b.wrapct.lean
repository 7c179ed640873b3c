theorem Ct.ofW {l : Launch} {D : va_G} {dA : Nat → ClassId} {B0 : Nat} {y : MethodName} {cc : ByteArray} {maxL fr lo : Nat} {ret : Option FieldType} {as : List Value} {hh : List (Nat × Nat × Nat × Nat)} {F : AS → Option AR} (hl : l.stackTraces = false) (hy : plainName y.cls = true) (hlen : (lg_sl as).length ≤ maxL)
    (body : ∀ Γ : CX, OKC Γ cc y.cls ret → cx_l Γ = l → cx_D Γ = D → cx_dA Γ = dA → cx_B Γ = B0 → cx_nL Γ = maxL → cx_fr Γ = fr → cx_lo Γ = lo → (cx_c Γ).exceptionTable.toList = tableOf hh → (cx_meth Γ).name = y.name → OK Γ 0 (lv_args 0 as) [] (F (cx_w Γ)) (cx_w Γ)) : Ct l D dA B0 y (.codeWith y cc maxL ret hh :: ax_ALL) fr lo as F := by
  intro ad σ r hr
  show ∀ sz : Nat, vx_Met l y (.codeWith y cc maxL ret hh :: ax_ALL) { frames := fr, cells := ax_nc r.2 - ax_nc σ, slots := ax_ns r.2 - ax_ns σ, locals := lo } (ax_Pc D dA B0 ad as σ sz) (ax_Qc D dA (va_A (ax_ws dA ad σ) sz) ad σ r) (ax_Xc D dA (va_A (ax_ws dA ad σ) sz) ad σ r) (ax_nc r.2 - ax_nc σ) (ax_ns r.2 - ax_ns σ) (va_A (ax_ws dA ad σ) sz)
  · intro sz
    refine vx_ofWH (hh := hh) (cc := cc) (maxL := maxL) (ret := ret) hy rfl ?_
    intro p e s m args below meth c s₁ B hml hv
    have htab : c.exceptionTable.toList = tableOf hh := vx_table (x := y) (maxL' := maxL) (ret' := ret) (bytes := cc) B (atoms_spec (ws := .codeWith y cc maxL ret hh :: ax_ALL) B.pre _ List.mem_cons_self)
    obtain ⟨rfl, hsz, hR, hK, hB0, hKF, hcl, hst⟩ := hv
    subst hsz
    have hts : ∀ w ∈ ax_ALL, w.before (as.map (ax_cv ad)).toArray s = true := fun w hw => atoms_spec (ws := .codeWith y cc maxL ret hh :: ax_ALL) B.pre w (List.mem_cons_of_mem _ hw)
    have hown : s.vm.findClass y.cls = some m.cls := findClass_of_methodNamed B.named
    have hAB : ∀ q, va_A (ax_ws dA ad σ) s.heap.size q → B0 ≤ q := by
      intro q hq
      rcases hq with ⟨i, e, hi⟩ | hq
      · exact hR.2.2 i (q, e) hi
      · exact Nat.le_trans hB0 hq
    have hok := body (p, l, e, s, m, (as.map (ax_cv ad)).toArray, below, meth, c, D, dA, B0, σ, ad, maxL, fr, lo)
      ⟨B.exec, B.bytes, hown, hts, hK, B.returns, B.notSynchronized, hml, hl, hKF, hB0, hAB⟩ rfl rfl rfl rfl rfl rfl rfl htab (name_of_methodNamed B.named B.method).1 r hr
    have hent := lv_entry (as.map (ax_cv ad)) (n := maxL) (by rw [ax_lgsl]; exact hlen)
    rw [lg_entry_eq]
    rw [ax_args] at hent
    have hw := hok.2 ad s.heap [] _ (Nat.le_refl _) (Nat.le_refl _) (Nat.le_refl _) (fun _ _ => rfl) ⟨hR.1, hR.2.self⟩ va_S.rf hent hcl (by
      have hlv : ∀ (as : List Value) (i : Nat), ax_st σ as → ax_lv σ (lv_args i as) := by
        intro as
        induction as with
        | nil => intro _ _ q hq; cases hq
        | cons v as ih =>
          intro i h q hq
          unfold lv_args at hq
          rcases List.mem_cons.mp hq with rfl | hq
          · exact h.1
          · exact ih _ h.2 q hq
      exact hlv as 0 hst) trivial
    have e1 : ax_nc σ - ax_nc σ = 0 := Nat.sub_self _
    have e2 : ax_ns σ - ax_ns σ = 0 := Nat.sub_self _
    have hw' := hw
    unfold cx_R cx_Q cx_A at hw'
    dsimp only [cx_w] at hw'
    rw [e1, e2] at hw'
    exact hw'

