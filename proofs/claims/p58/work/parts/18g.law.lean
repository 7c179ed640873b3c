/-! ChaseLockerLaw.law([I)Z -/
def fL_law_230 (sc : Nat × (Nat → Int32))  (a3 : Nat) (s0 : AS) : Option AR :=
  nA s0 100 1 (fun q1 s2 =>
  uI s2 q1 0 12 (fun s3 =>
  cR s3 (fL_thrown a3 0 q1 s3) (qI (fun v4 s5 =>
  if v4 = (3 : Int32) then (
    nA s5 100 1 (fun q6 s7 =>
    uI s7 q6 0 6 (fun s8 =>
    cR s8 (fL_thrown a3 1 q6 s8) (qI (fun v9 s10 =>
    if v9 = (3 : Int32) then (
      nA s10 100 2 (fun q11 s12 =>
      uI s12 q11 0 0 (fun s13 =>
      uI s13 q11 1 9 (fun s14 =>
      cR s14 (fL_thrown a3 2 q11 s14) (qI (fun v15 s16 =>
      if v15 = (3 : Int32) then (
        rW 1 s16)
      else (
        rW 0 s16)))))))
    else (
      rW 0 s10))))))
  else (
    rW 0 s5)))))
def fL_law_198 (sc : Nat × (Nat → Int32)) (r167 : Nat → Nat → Nat → Int32 → AS → Option AR) (a1 : Nat) (a2 : Nat) (a3 : Nat) (x4 : Int32) (s0 : AS) : Option AR :=
  cS s0 (fL_isLike a3 a2 s0) (qI (fun v1 s2 =>
  if v1 = 0 then (
    rW 0 s2)
  else (
    cS s2 (fL_looks a3 a2 s2) (qI (fun v3 s4 =>
    if v3 = 0 then (
      rW 0 s4)
    else (
      cS s4 (fL_rows a3 a2 s4) (qI (fun v5 s6 =>
      if v5 = 0 then (
        rW 0 s6)
      else (
        lt (x4 + (-1)) (fun v7 =>
        r167 a1 a2 a3 v7 s6))))))))))
def fL_law_175 (sc : Nat × (Nat → Int32)) (r167 : Nat → Nat → Nat → Int32 → AS → Option AR) : Nat → Nat → Nat → Nat → Int32 → Int32 → AS → Option AR
  | 0, _, _, _, _, _, _ => none
  | n + 1, a1, a2, a3, x4, x5, s0 =>
    if (3 : Int32) ≤ x5 then (
      fL_law_198 sc r167 a1 a2 a3 x4 s0)
    else (
      cS s0 (fL_act sc a3 a2 a1 s0) (qI (fun v1 s2 =>
      if v1 = 0 then (
        rW 0 s2)
      else (
        lt (x5 + 1) (fun v3 =>
        fL_law_175 sc r167 n a1 a2 a3 x4 v3 s2)))))
def fL_law_167 (sc : Nat × (Nat → Int32))  : Nat → Nat → Nat → Nat → Int32 → AS → Option AR
  | 0, _, _, _, _, _ => none
  | n + 1, a1, a2, a3, x4, s0 =>
    if x4 ≤ 0 then (
      fL_law_230 sc a3 s0)
    else (
      fL_law_175 sc (fL_law_167 sc n) FU a1 a2 a3 x4 0 s0)
def fL_law_26 (sc : Nat × (Nat → Int32))  (a1 : Nat) (a2 : Nat) (a3 : Nat) (s0 : AS) : Option AR :=
  nA s0 100 1 (fun q1 s2 =>
  uI s2 q1 0 0 (fun s3 =>
  cR s3 (fL_thrown a3 0 q1 s3) (qI (fun v4 s5 =>
  if v4 = (1 : Int32) then (
    nA s5 100 1 (fun q6 s7 =>
    uI s7 q6 0 1 (fun s8 =>
    cR s8 (fL_thrown a3 21 q6 s8) (qI (fun v9 s10 =>
    if v9 = (1 : Int32) then (
      nA s10 100 0 (fun q11 s12 =>
      cR s12 (fL_thrown a3 24 q11 s12) (qI (fun v13 s14 =>
      if v13 = (1 : Int32) then (
        nA s14 100 1 (fun q15 s16 =>
        uI s16 q15 0 0 (fun s17 =>
        cR s17 (fL_thrown a3 11 q15 s17) (qI (fun v18 s19 =>
        if v18 = (2 : Int32) then (
          nA s19 100 1 (fun q20 s21 =>
          uI s21 q20 0 1 (fun s22 =>
          cR s22 (fL_thrown a3 8 q20 s22) (qI (fun v23 s24 =>
          if v23 = (1 : Int32) then (
            cV s24 a3 10 (fX6_undoable a3 s24) (qI (fun v25 s26 =>
            if v25 = 0 then (
              gR s26 a2 13 0 (fun q27 =>
              cV s26 q27 1 (fJ4_toString_0e30d q27 s26) (qR (fun q28 s29 =>
              cS s29 (fL_tell a3 q28 s29) (qI (fun v30 s31 =>
              gI s31 a2 13 14 (fun v32 =>
              if v30 = v32 then (
                cV s31 a3 10 (fX6_parseError a3 s31) (qI (fun v33 s34 =>
                if v33 = 0 then (
                  cV s34 a3 10 (fX6_errorPosition a3 s34) (qI (fun v35 s36 =>
                  if v35 = (-1 : Int32) then (
                    cS s36 (fL_isLike a3 a2 s36) (qI (fun v37 s38 =>
                    if v37 = 0 then (
                      rW 0 s38)
                    else (
                      cV s38 a1 11 (fX17_next sc a1 1 12 s38) (qI (fun v39 s40 =>
                      fL_law_167 sc FU a1 a2 a3 v39 s40))))))
                  else (
                    rW 0 s36))))
                else (
                  rW 0 s34))))
              else (
                rW 0 s31))))))))
            else (
              rW 0 s26))))
          else (
            rW 0 s24))))))
        else (
          rW 0 s19))))))
      else (
        rW 0 s14)))))
    else (
      rW 0 s10))))))
  else (
    rW 0 s5)))))
def fL_law (sc : Nat × (Nat → Int32)) (a0 : Nat) (s0 : AS) : Option AR :=
  nO s0 11 2 (fun q1 s2 =>
  cS s2 (fX17_init q1 a0 s2) (qV (fun s3 =>
  nO s3 13 16 (fun q4 s5 =>
  cS s5 (fX19_init sc q4 q1 s5) (qV (fun s6 =>
  nO s6 10 11 (fun q7 s8 =>
  cS s8 (fX6_init q7 s8) (qV (fun s9 =>
  fL_law_26 sc q1 q4 q7 s9)))))))))
set_option maxHeartbeats 4000000 in
theorem oL_law_230 {Γ : CX} (C : OKC Γ cL_law RL (some (.boolean))) (T : ∀ z ∈ (cx_c Γ).exceptionTable.toList, False) (hn : cx_nL Γ = 6) (hR : cx_fr Γ = 2048 ∧ cx_lo Γ = 84000) (hin : (cx_meth Γ).name = yL_law.name) {sc : Nat × (Nat → Int32)} (hsc : ax_scr (cx_ad Γ) = sc) : ∀ (a3 : Nat) (s0 : AS), OK Γ 230 [(3, .ref a3)] [] (fL_law_230 sc  a3 s0) s0 := by
  intro a3 s0
  unfold fL_law_230
  refine ok_aload_n C 0 dL_law_230 rfl ?_
  refine ok_iconst C (v := 0) dL_law_231 (by decide) ?_
  refine ok_iconst C (v := 1) dL_law_232 (by decide) ?_
  refine ok_newI C kw_136 dL_law_233 (fun q1 s2 => ?_)
  refine ok_dup C dL_law_235 rfl ?_
  refine ok_iconst C (v := 0) dL_law_236 (by decide) ?_
  refine ok_bipush C (v := 12) dL_law_237 (by decide) ?_
  refine ok_iast C dL_law_239 (fun s3 _ => ?_)
  refine ok_callSW C [.ref a3, .int 0, .ref q1] (F := fL_thrown a3 0 q1) (ctL_thrown (C.2.2.2.2.2.2.2.2.1) a3 0 q1) vwL_189 rfl (by rw [hR.1, hR.2]; decide) (Nat.le_of_ble_eq_true rfl) dL_law_240 (ok_qI fun v4 s5 => ?_)
  refine ok_iconst C (v := 3) dL_law_243 (by decide) ?_
  refine ok_icmp_ne C 289 dL_law_244 (by decide) ?_ ?_
  · refine ok_iconst C (v := 0) dL_law_289 (by decide) ?_
    exact ok_wreturn C dL_law_290
  · refine ok_aload_n C 0 dL_law_247 rfl ?_
    refine ok_iconst C (v := 1) dL_law_248 (by decide) ?_
    refine ok_iconst C (v := 1) dL_law_249 (by decide) ?_
    refine ok_newI C kw_136 dL_law_250 (fun q6 s7 => ?_)
    refine ok_dup C dL_law_252 rfl ?_
    refine ok_iconst C (v := 0) dL_law_253 (by decide) ?_
    refine ok_bipush C (v := 6) dL_law_254 (by decide) ?_
    refine ok_iast C dL_law_256 (fun s8 _ => ?_)
    refine ok_callSW C [.ref a3, .int 1, .ref q6] (F := fL_thrown a3 1 q6) (ctL_thrown (C.2.2.2.2.2.2.2.2.1) a3 1 q6) vwL_189 rfl (by rw [hR.1, hR.2]; decide) (Nat.le_of_ble_eq_true rfl) dL_law_257 (ok_qI fun v9 s10 => ?_)
    refine ok_iconst C (v := 3) dL_law_260 (by decide) ?_
    refine ok_icmp_ne C 289 dL_law_261 (by decide) ?_ ?_
    · refine ok_iconst C (v := 0) dL_law_289 (by decide) ?_
      exact ok_wreturn C dL_law_290
    · refine ok_aload_n C 0 dL_law_264 rfl ?_
      refine ok_iconst C (v := 2) dL_law_265 (by decide) ?_
      refine ok_iconst C (v := 2) dL_law_266 (by decide) ?_
      refine ok_newI C kw_136 dL_law_267 (fun q11 s12 => ?_)
      refine ok_dup C dL_law_269 rfl ?_
      refine ok_iconst C (v := 0) dL_law_270 (by decide) ?_
      refine ok_iconst C (v := 0) dL_law_271 (by decide) ?_
      refine ok_iast C dL_law_272 (fun s13 _ => ?_)
      refine ok_dup C dL_law_273 rfl ?_
      refine ok_iconst C (v := 1) dL_law_274 (by decide) ?_
      refine ok_bipush C (v := 9) dL_law_275 (by decide) ?_
      refine ok_iast C dL_law_277 (fun s14 _ => ?_)
      refine ok_callSW C [.ref a3, .int 2, .ref q11] (F := fL_thrown a3 2 q11) (ctL_thrown (C.2.2.2.2.2.2.2.2.1) a3 2 q11) vwL_189 rfl (by rw [hR.1, hR.2]; decide) (Nat.le_of_ble_eq_true rfl) dL_law_278 (ok_qI fun v15 s16 => ?_)
      refine ok_iconst C (v := 3) dL_law_281 (by decide) ?_
      refine ok_icmp_ne C 289 dL_law_282 (by decide) ?_ ?_
      · refine ok_iconst C (v := 0) dL_law_289 (by decide) ?_
        exact ok_wreturn C dL_law_290
      · refine ok_iconst C (v := 1) dL_law_285 (by decide) ?_
        refine ok_goto C 290 dL_law_286 (by decide) ?_
        exact ok_wreturn C dL_law_290
set_option maxHeartbeats 4000000 in
theorem oL_law_198 {Γ : CX} (C : OKC Γ cL_law RL (some (.boolean))) (T : ∀ z ∈ (cx_c Γ).exceptionTable.toList, False) (hn : cx_nL Γ = 6) (hR : cx_fr Γ = 2048 ∧ cx_lo Γ = 84000) (hin : (cx_meth Γ).name = yL_law.name) {sc : Nat × (Nat → Int32)} (hsc : ax_scr (cx_ad Γ) = sc) {r167 : Nat → Nat → Nat → Int32 → AS → Option AR} (h167 : ∀ (a1 : Nat) (a2 : Nat) (a3 : Nat) (x4 : Int32) (s0 : AS), OK Γ 167 [(1, .ref a1), (2, .ref a2), (3, .ref a3), (4, .int x4)] [] (r167 a1 a2 a3 x4 s0) s0) : ∀ (a1 : Nat) (a2 : Nat) (a3 : Nat) (x4 : Int32) (s0 : AS), OK Γ 198 [(1, .ref a1), (2, .ref a2), (3, .ref a3), (4, .int x4)] [] (fL_law_198 sc r167 a1 a2 a3 x4 s0) s0 := by
  intro a1 a2 a3 x4 s0
  unfold fL_law_198
  refine ok_aload_n C 2 dL_law_198 rfl ?_
  refine ok_aload_n C 1 dL_law_199 rfl ?_
  refine ok_callS C T [.ref a3, .ref a2] (F := fL_isLike a3 a2) (ctL_isLike (C.2.2.2.2.2.2.2.2.1) a3 a2) vlL_333 kw_1137 rfl (by rw [hR.1, hR.2]; decide) (Nat.le_of_ble_eq_true rfl) dL_law_200 (ok_qI fun v1 s2 => ?_)
  refine ok_if_eq C 222 dL_law_203 (by decide) ?_ ?_
  · refine ok_iconst C (v := 0) dL_law_222 (by decide) ?_
    exact ok_wreturn C dL_law_223
  · refine ok_aload_n C 2 dL_law_206 rfl ?_
    refine ok_aload_n C 1 dL_law_207 rfl ?_
    refine ok_callS C T [.ref a3, .ref a2] (F := fL_looks a3 a2) (ctL_looks (C.2.2.2.2.2.2.2.2.1) a3 a2) vlL_341 kw_1140 rfl (by rw [hR.1, hR.2]; decide) (Nat.le_of_ble_eq_true rfl) dL_law_208 (ok_qI fun v3 s4 => ?_)
    refine ok_if_eq C 222 dL_law_211 (by decide) ?_ ?_
    · refine ok_iconst C (v := 0) dL_law_222 (by decide) ?_
      exact ok_wreturn C dL_law_223
    · refine ok_aload_n C 2 dL_law_214 rfl ?_
      refine ok_aload_n C 1 dL_law_215 rfl ?_
      refine ok_callS C T [.ref a3, .ref a2] (F := fL_rows a3 a2) (ctL_rows (C.2.2.2.2.2.2.2.2.1) a3 a2) vlL_344 kw_1143 rfl (by rw [hR.1, hR.2]; decide) (Nat.le_of_ble_eq_true rfl) dL_law_216 (ok_qI fun v5 s6 => ?_)
      refine ok_if_ne C 224 dL_law_219 (by decide) ?_ ?_
      · refine ok_iincL C 3 (c := (-1)) (fun v7 => [(4, .int v7), (1, .ref a1), (2, .ref a2), (3, .ref a3)]) dL_law_224 rfl rfl (by rw [hn]; decide) (fun _ => rfl) (fun v7 => ?_)
        refine ok_goto C 167 dL_law_227 (by decide) ?_
        refine OK.sub (lv' := [(1, .ref a1), (2, .ref a2), (3, .ref a3), (4, .int v7)]) [1, 2, 3, 0] rfl ?_
        exact h167 a1 a2 a3 v7 s6
      · refine ok_iconst C (v := 0) dL_law_222 (by decide) ?_
        exact ok_wreturn C dL_law_223
set_option maxHeartbeats 4000000 in
theorem oL_law_175 {Γ : CX} (C : OKC Γ cL_law RL (some (.boolean))) (T : ∀ z ∈ (cx_c Γ).exceptionTable.toList, False) (hn : cx_nL Γ = 6) (hR : cx_fr Γ = 2048 ∧ cx_lo Γ = 84000) (hin : (cx_meth Γ).name = yL_law.name) {sc : Nat × (Nat → Int32)} (hsc : ax_scr (cx_ad Γ) = sc) {r167 : Nat → Nat → Nat → Int32 → AS → Option AR} (h167 : ∀ (a1 : Nat) (a2 : Nat) (a3 : Nat) (x4 : Int32) (s0 : AS), OK Γ 167 [(1, .ref a1), (2, .ref a2), (3, .ref a3), (4, .int x4)] [] (r167 a1 a2 a3 x4 s0) s0) : ∀ (n : Nat) (a1 : Nat) (a2 : Nat) (a3 : Nat) (x4 : Int32) (x5 : Int32) (s0 : AS), OK Γ 175 [(1, .ref a1), (2, .ref a2), (3, .ref a3), (4, .int x4), (5, .int x5)] [] (fL_law_175 sc r167 n a1 a2 a3 x4 x5 s0) s0 := by
  intro n
  induction n with
  | zero => intro _ _ _ _ _ s0; exact OK.none
  | succ n ih =>
    intro a1 a2 a3 x4 x5 s0
    rw [fL_law_175]
    refine ok_iload C 4 dL_law_175 rfl ?_
    refine ok_iconst C (v := 3) dL_law_177 (by decide) ?_
    refine ok_icmp_ge C 198 dL_law_178 (by decide) ?_ ?_
    · refine OK.sub (lv' := [(1, .ref a1), (2, .ref a2), (3, .ref a3), (4, .int x4)]) [0, 1, 2, 3] rfl ?_
      exact oL_law_198 C T hn hR hin hsc h167 a1 a2 a3 x4 s0
    · refine ok_aload_n C 2 dL_law_181 rfl ?_
      refine ok_aload_n C 1 dL_law_182 rfl ?_
      refine ok_aload_n C 0 dL_law_183 rfl ?_
      refine ok_callSX C T [.ref a3, .ref a2, .ref a1] (F := fun sc => fL_act sc a3 a2 a1) hsc (ctL_act (C.2.2.2.2.2.2.2.2.1) a3 a2 a1) vlL_337 kw_1146 rfl (by rw [hR.1, hR.2]; decide) (Nat.le_of_ble_eq_true rfl) dL_law_184 (ok_qI fun v1 s2 => ?_)
      refine ok_if_ne C 192 dL_law_187 (by decide) ?_ ?_
      · refine ok_iincL C 4 (c := 1) (fun v3 => [(5, .int v3), (1, .ref a1), (2, .ref a2), (3, .ref a3), (4, .int x4)]) dL_law_192 rfl rfl (by rw [hn]; decide) (fun _ => rfl) (fun v3 => ?_)
        refine ok_goto C 175 dL_law_195 (by decide) ?_
        refine OK.sub (lv' := [(1, .ref a1), (2, .ref a2), (3, .ref a3), (4, .int x4), (5, .int v3)]) [1, 2, 3, 4, 0] rfl ?_
        exact ih a1 a2 a3 x4 v3 s2
      · refine ok_iconst C (v := 0) dL_law_190 (by decide) ?_
        exact ok_wreturn C dL_law_191
set_option maxHeartbeats 4000000 in
theorem oL_law_167 {Γ : CX} (C : OKC Γ cL_law RL (some (.boolean))) (T : ∀ z ∈ (cx_c Γ).exceptionTable.toList, False) (hn : cx_nL Γ = 6) (hR : cx_fr Γ = 2048 ∧ cx_lo Γ = 84000) (hin : (cx_meth Γ).name = yL_law.name) {sc : Nat × (Nat → Int32)} (hsc : ax_scr (cx_ad Γ) = sc) : ∀ (n : Nat) (a1 : Nat) (a2 : Nat) (a3 : Nat) (x4 : Int32) (s0 : AS), OK Γ 167 [(1, .ref a1), (2, .ref a2), (3, .ref a3), (4, .int x4)] [] (fL_law_167 sc n a1 a2 a3 x4 s0) s0 := by
  intro n
  induction n with
  | zero => intro _ _ _ _ s0; exact OK.none
  | succ n ih =>
    intro a1 a2 a3 x4 s0
    rw [fL_law_167]
    refine ok_iload C 3 dL_law_167 rfl ?_
    refine ok_if_le C 230 dL_law_169 (by decide) ?_ ?_
    · refine OK.sub (lv' := [(3, .ref a3)]) [2] rfl ?_
      exact oL_law_230 C T hn hR hin hsc a3 s0
    · refine ok_iconst C (v := 0) dL_law_172 (by decide) ?_
      refine ok_istore C (i := 5) [(5, .int 0), (1, .ref a1), (2, .ref a2), (3, .ref a3), (4, .int x4)] dL_law_173 (by rw [hn]; decide) rfl ?_
      refine OK.sub (lv' := [(1, .ref a1), (2, .ref a2), (3, .ref a3), (4, .int x4), (5, .int 0)]) [1, 2, 3, 4, 0] rfl ?_
      exact oL_law_175 C T hn hR hin hsc ih FU a1 a2 a3 x4 0 s0
set_option maxHeartbeats 4000000 in
theorem oL_law_26 {Γ : CX} (C : OKC Γ cL_law RL (some (.boolean))) (T : ∀ z ∈ (cx_c Γ).exceptionTable.toList, False) (hn : cx_nL Γ = 6) (hR : cx_fr Γ = 2048 ∧ cx_lo Γ = 84000) (hin : (cx_meth Γ).name = yL_law.name) {sc : Nat × (Nat → Int32)} (hsc : ax_scr (cx_ad Γ) = sc) : ∀ (a1 : Nat) (a2 : Nat) (a3 : Nat) (s0 : AS), OK Γ 26 [(1, .ref a1), (2, .ref a2), (3, .ref a3)] [] (fL_law_26 sc  a1 a2 a3 s0) s0 := by
  intro a1 a2 a3 s0
  unfold fL_law_26
  refine ok_aload_n C 2 dL_law_26 rfl ?_
  refine ok_iconst C (v := 0) dL_law_27 (by decide) ?_
  refine ok_iconst C (v := 1) dL_law_28 (by decide) ?_
  refine ok_newI C kw_136 dL_law_29 (fun q1 s2 => ?_)
  refine ok_dup C dL_law_31 rfl ?_
  refine ok_iconst C (v := 0) dL_law_32 (by decide) ?_
  refine ok_iconst C (v := 0) dL_law_33 (by decide) ?_
  refine ok_iast C dL_law_34 (fun s3 _ => ?_)
  refine ok_callSW C [.ref a3, .int 0, .ref q1] (F := fL_thrown a3 0 q1) (ctL_thrown (C.2.2.2.2.2.2.2.2.1) a3 0 q1) vwL_189 rfl (by rw [hR.1, hR.2]; decide) (Nat.le_of_ble_eq_true rfl) dL_law_35 (ok_qI fun v4 s5 => ?_)
  refine ok_iconst C (v := 1) dL_law_38 (by decide) ?_
  refine ok_icmp_ne C 113 dL_law_39 (by decide) ?_ ?_
  · refine ok_iconst C (v := 0) dL_law_113 (by decide) ?_
    exact ok_wreturn C dL_law_114
  · refine ok_aload_n C 2 dL_law_42 rfl ?_
    refine ok_bipush C (v := 21) dL_law_43 (by decide) ?_
    refine ok_iconst C (v := 1) dL_law_45 (by decide) ?_
    refine ok_newI C kw_136 dL_law_46 (fun q6 s7 => ?_)
    refine ok_dup C dL_law_48 rfl ?_
    refine ok_iconst C (v := 0) dL_law_49 (by decide) ?_
    refine ok_iconst C (v := 1) dL_law_50 (by decide) ?_
    refine ok_iast C dL_law_51 (fun s8 _ => ?_)
    refine ok_callSW C [.ref a3, .int 21, .ref q6] (F := fL_thrown a3 21 q6) (ctL_thrown (C.2.2.2.2.2.2.2.2.1) a3 21 q6) vwL_189 rfl (by rw [hR.1, hR.2]; decide) (Nat.le_of_ble_eq_true rfl) dL_law_52 (ok_qI fun v9 s10 => ?_)
    refine ok_iconst C (v := 1) dL_law_55 (by decide) ?_
    refine ok_icmp_ne C 113 dL_law_56 (by decide) ?_ ?_
    · refine ok_iconst C (v := 0) dL_law_113 (by decide) ?_
      exact ok_wreturn C dL_law_114
    · refine ok_aload_n C 2 dL_law_59 rfl ?_
      refine ok_bipush C (v := 24) dL_law_60 (by decide) ?_
      refine ok_iconst C (v := 0) dL_law_62 (by decide) ?_
      refine ok_newI C kw_136 dL_law_63 (fun q11 s12 => ?_)
      refine ok_callSW C [.ref a3, .int 24, .ref q11] (F := fL_thrown a3 24 q11) (ctL_thrown (C.2.2.2.2.2.2.2.2.1) a3 24 q11) vwL_189 rfl (by rw [hR.1, hR.2]; decide) (Nat.le_of_ble_eq_true rfl) dL_law_65 (ok_qI fun v13 s14 => ?_)
      refine ok_iconst C (v := 1) dL_law_68 (by decide) ?_
      refine ok_icmp_ne C 113 dL_law_69 (by decide) ?_ ?_
      · refine ok_iconst C (v := 0) dL_law_113 (by decide) ?_
        exact ok_wreturn C dL_law_114
      · refine ok_aload_n C 2 dL_law_72 rfl ?_
        refine ok_bipush C (v := 11) dL_law_73 (by decide) ?_
        refine ok_iconst C (v := 1) dL_law_75 (by decide) ?_
        refine ok_newI C kw_136 dL_law_76 (fun q15 s16 => ?_)
        refine ok_dup C dL_law_78 rfl ?_
        refine ok_iconst C (v := 0) dL_law_79 (by decide) ?_
        refine ok_iconst C (v := 0) dL_law_80 (by decide) ?_
        refine ok_iast C dL_law_81 (fun s17 _ => ?_)
        refine ok_callSW C [.ref a3, .int 11, .ref q15] (F := fL_thrown a3 11 q15) (ctL_thrown (C.2.2.2.2.2.2.2.2.1) a3 11 q15) vwL_189 rfl (by rw [hR.1, hR.2]; decide) (Nat.le_of_ble_eq_true rfl) dL_law_82 (ok_qI fun v18 s19 => ?_)
        refine ok_iconst C (v := 2) dL_law_85 (by decide) ?_
        refine ok_icmp_ne C 113 dL_law_86 (by decide) ?_ ?_
        · refine ok_iconst C (v := 0) dL_law_113 (by decide) ?_
          exact ok_wreturn C dL_law_114
        · refine ok_aload_n C 2 dL_law_89 rfl ?_
          refine ok_bipush C (v := 8) dL_law_90 (by decide) ?_
          refine ok_iconst C (v := 1) dL_law_92 (by decide) ?_
          refine ok_newI C kw_136 dL_law_93 (fun q20 s21 => ?_)
          refine ok_dup C dL_law_95 rfl ?_
          refine ok_iconst C (v := 0) dL_law_96 (by decide) ?_
          refine ok_iconst C (v := 1) dL_law_97 (by decide) ?_
          refine ok_iast C dL_law_98 (fun s22 _ => ?_)
          refine ok_callSW C [.ref a3, .int 8, .ref q20] (F := fL_thrown a3 8 q20) (ctL_thrown (C.2.2.2.2.2.2.2.2.1) a3 8 q20) vwL_189 rfl (by rw [hR.1, hR.2]; decide) (Nat.le_of_ble_eq_true rfl) dL_law_99 (ok_qI fun v23 s24 => ?_)
          refine ok_iconst C (v := 1) dL_law_102 (by decide) ?_
          refine ok_icmp_ne C 113 dL_law_103 (by decide) ?_ ?_
          · refine ok_iconst C (v := 0) dL_law_113 (by decide) ?_
            exact ok_wreturn C dL_law_114
          · refine ok_aload_n C 2 dL_law_106 rfl ?_
            refine ok_callV C T [] (F := fX6_undoable a3) (ctX6_undoable (C.2.2.2.2.2.2.2.2.1) a3) vlL_316 viX6_undoable rfl rfl (by decide) rfl (by rw [hR.1, hR.2]; decide) (Nat.le_of_ble_eq_true rfl) dL_law_107 (ok_qI fun v25 s26 => ?_)
            refine ok_if_eq C 115 dL_law_110 (by decide) ?_ ?_
            · refine ok_aload_n C 2 dL_law_115 rfl ?_
              refine ok_aload_n C 1 dL_law_116 rfl ?_
              refine ok_getNR C fnrL_319_13 dL_law_117 (fun q27 => ?_)
              refine ok_callV C T [] (F := fJ4_toString_0e30d q27) (ctJ4_toString_0e30d (C.2.2.2.2.2.2.2.2.1) q27) vlL_283 viJ4_toString_0e30d rfl rfl (by decide) rfl (by rw [hR.1, hR.2]; decide) (Nat.le_of_ble_eq_true rfl) dL_law_120 (ok_qR fun q28 s29 => ?_)
              refine ok_callS C T [.ref a3, .ref q28] (F := fL_tell a3 q28) (ctL_tell (C.2.2.2.2.2.2.2.2.1) a3 q28) vlL_323 kw_1126 rfl (by rw [hR.1, hR.2]; decide) (Nat.le_of_ble_eq_true rfl) dL_law_123 (ok_qI fun v30 s31 => ?_)
              refine ok_aload_n C 1 dL_law_126 rfl ?_
              refine ok_getNI C fnrL_170_13 dL_law_127 (fun v32 => ?_)
              refine ok_icmp_ne C 156 dL_law_130 (by decide) ?_ ?_
              · refine ok_iconst C (v := 0) dL_law_156 (by decide) ?_
                exact ok_wreturn C dL_law_157
              · refine ok_aload_n C 2 dL_law_133 rfl ?_
                refine ok_callV C T [] (F := fX6_parseError a3) (ctX6_parseError (C.2.2.2.2.2.2.2.2.1) a3) vlL_327 viX6_parseError rfl rfl (by decide) rfl (by rw [hR.1, hR.2]; decide) (Nat.le_of_ble_eq_true rfl) dL_law_134 (ok_qI fun v33 s34 => ?_)
                refine ok_if_ne C 156 dL_law_137 (by decide) ?_ ?_
                · refine ok_iconst C (v := 0) dL_law_156 (by decide) ?_
                  exact ok_wreturn C dL_law_157
                · refine ok_aload_n C 2 dL_law_140 rfl ?_
                  refine ok_callV C T [] (F := fX6_errorPosition a3) (ctX6_errorPosition (C.2.2.2.2.2.2.2.2.1) a3) vlL_330 viX6_errorPosition rfl rfl (by decide) rfl (by rw [hR.1, hR.2]; decide) (Nat.le_of_ble_eq_true rfl) dL_law_141 (ok_qI fun v35 s36 => ?_)
                  refine ok_iconst C (v := (-1)) dL_law_144 (by decide) ?_
                  refine ok_icmp_ne C 156 dL_law_145 (by decide) ?_ ?_
                  · refine ok_iconst C (v := 0) dL_law_156 (by decide) ?_
                    exact ok_wreturn C dL_law_157
                  · refine ok_aload_n C 2 dL_law_148 rfl ?_
                    refine ok_aload_n C 1 dL_law_149 rfl ?_
                    refine ok_callS C T [.ref a3, .ref a2] (F := fL_isLike a3 a2) (ctL_isLike (C.2.2.2.2.2.2.2.2.1) a3 a2) vlL_333 kw_1137 rfl (by rw [hR.1, hR.2]; decide) (Nat.le_of_ble_eq_true rfl) dL_law_150 (ok_qI fun v37 s38 => ?_)
                    refine ok_if_ne C 158 dL_law_153 (by decide) ?_ ?_
                    · refine ok_aload_n C 0 dL_law_158 rfl ?_
                      refine ok_iconst C (v := 1) dL_law_159 (by decide) ?_
                      refine ok_bipush C (v := 12) dL_law_160 (by decide) ?_
                      refine ok_callVX C T [.int 1, .int 12] (F := fun sc => fX17_next sc a1 1 12) hsc (ctX17_next (C.2.2.2.2.2.2.2.2.1) a1 1 12) vlL_205 viX17_next rfl rfl (by decide) rfl (by rw [hR.1, hR.2]; decide) (Nat.le_of_ble_eq_true rfl) dL_law_162 (ok_qI fun v39 s40 => ?_)
                      refine ok_istore C (i := 4) [(4, .int v39), (1, .ref a1), (2, .ref a2), (3, .ref a3)] dL_law_165 (by rw [hn]; decide) rfl ?_
                      refine OK.sub (lv' := [(1, .ref a1), (2, .ref a2), (3, .ref a3), (4, .int v39)]) [1, 2, 3, 0] rfl ?_
                      exact oL_law_167 C T hn hR hin hsc FU a1 a2 a3 v39 s40
                    · refine ok_iconst C (v := 0) dL_law_156 (by decide) ?_
                      exact ok_wreturn C dL_law_157
            · refine ok_iconst C (v := 0) dL_law_113 (by decide) ?_
              exact ok_wreturn C dL_law_114
set_option maxHeartbeats 4000000 in
theorem oL_law {Γ : CX} (C : OKC Γ cL_law RL (some (.boolean))) (T : ∀ z ∈ (cx_c Γ).exceptionTable.toList, False) (hn : cx_nL Γ = 6) (hR : cx_fr Γ = 2048 ∧ cx_lo Γ = 84000) (hin : (cx_meth Γ).name = yL_law.name) {sc : Nat × (Nat → Int32)} (hsc : ax_scr (cx_ad Γ) = sc) : ∀ (a0 : Nat) (s0 : AS), OK Γ 0 [(0, .ref a0)] [] (fL_law sc a0 s0) s0 := by
  intro a0 s0
  unfold fL_law
  refine ok_new C (C0 := RX17) ax_DF11 ⟨_, rfl⟩ kw_1109 dL_law_0 (fun q1 s2 => ?_)
  refine ok_dup C dL_law_3 rfl ?_
  refine ok_aload_n C 0 dL_law_4 rfl ?_
  refine ok_callI C T [.ref a0] (F := fX17_init q1 a0) (ctX17_init (C.2.2.2.2.2.2.2.2.1) q1 a0) vlL_309 kw_1111 rfl rfl (by rw [hR.1, hR.2]; decide) (Nat.le_of_ble_eq_true rfl) dL_law_5 (ok_qV fun s3 => ?_)
  refine ok_astore_n C (i := 1) [(1, .ref q1), (0, .ref a0)] dL_law_8 rfl (by rw [hn]; decide) rfl ?_
  refine ok_new C (C0 := RX19) ax_DF13 ⟨_, rfl⟩ kw_1028 dL_law_9 (fun q4 s5 => ?_)
  refine ok_dup C dL_law_12 rfl ?_
  refine ok_aload_n C 0 dL_law_13 rfl ?_
  refine ok_callIX C T [.ref q1] (F := fun sc => fX19_init sc q4 q1) hsc (ctX19_init (C.2.2.2.2.2.2.2.2.1) q4 q1) vlL_312 kw_1114 rfl rfl (by rw [hR.1, hR.2]; decide) (Nat.le_of_ble_eq_true rfl) dL_law_14 (ok_qV fun s6 => ?_)
  refine ok_astore_n C (i := 2) [(2, .ref q4), (1, .ref q1), (0, .ref a0)] dL_law_17 rfl (by rw [hn]; decide) rfl ?_
  refine ok_new C (C0 := RX6) ax_DF10 ⟨_, rfl⟩ kw_1116 dL_law_18 (fun q7 s8 => ?_)
  refine ok_dup C dL_law_21 rfl ?_
  refine ok_callI C T [] (F := fX6_init q7) (ctX6_init (C.2.2.2.2.2.2.2.2.1) q7) vlL_315 kw_1118 rfl rfl (by rw [hR.1, hR.2]; decide) (Nat.le_of_ble_eq_true rfl) dL_law_22 (ok_qV fun s9 => ?_)
  refine ok_astore_n C (i := 3) [(3, .ref q7), (2, .ref q4), (1, .ref q1), (0, .ref a0)] dL_law_25 rfl (by rw [hn]; decide) rfl ?_
  refine OK.sub (lv' := [(1, .ref q1), (2, .ref q4), (3, .ref q7)]) [2, 1, 0] rfl ?_
  exact oL_law_26 C T hn hR hin hsc q1 q4 q7 s9
theorem ctL_law {l : Launch} (hl : l.stackTraces = false) {D : va_G} {dA : Nat → ClassId} {B0 : Nat} (a0 : Nat) : CtS l D dA B0 yL_law (.code yL_law cL_law 6 (some (.boolean)) :: ax_ALL) 2048 84000 [.ref a0] (fun sc => fL_law sc a0) :=
  CtS.of hl (by decide +kernel) (Nat.le_of_ble_eq_true rfl) fun Γ C _ _ _ _ e5 e6 e7 T hin => oL_law C T e5 ⟨e6, e7⟩ hin rfl a0 _
