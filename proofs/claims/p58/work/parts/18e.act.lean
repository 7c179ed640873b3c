/-! ChaseLockerLaw.act(LChaseLocker;LChaseLockerLaw$World;LChaseLockerLaw$Draws;)Z -/
def fL_act_1422 (sc : Nat × (Nat → Int32))  (a0 : Nat) (a1 : Nat) (x4 : Int32) (s0 : AS) : Option AR :=
  cV s0 a0 10 (fX6_tighten a0 x4 s0) (qI (fun v1 s2 =>
  gR s2 a1 13 13 (fun q3 =>
  aI s2 q3 100 x4 (fun v4 =>
  if v1 = v4 then (
    rZ 1 s2)
  else (
    rZ 0 s2)))))
def fL_act_1350 (sc : Nat × (Nat → Int32))  : Nat → Nat → Nat → Int32 → AS → Option AR
  | 0, _, _, _, _ => none
  | n + 1, a0, a1, x4, s0 =>
    gR s0 a1 13 11 (fun q1 =>
    aI s0 q1 100 x4 (fun v2 =>
    gR s0 a1 13 1 (fun q3 =>
    aI s0 q3 100 3 (fun v4 =>
    if v4 ≤ v2 then (
      fL_act_1422 sc a0 a1 x4 s0)
    else (
      gR s0 a1 13 13 (fun q5 =>
      aI s0 q5 100 x4 (fun v6 =>
      if v6 ≤ 0 then (
        fL_act_1422 sc a0 a1 x4 s0)
      else (
        gR s0 a1 13 11 (fun q7 =>
        aI s0 q7 100 x4 (fun v8 =>
        uI s0 q7 x4 (v8 + 1) (fun s9 =>
        gR s9 a1 13 12 (fun q10 =>
        aI s9 q10 100 x4 (fun v11 =>
        uI s9 q10 x4 (v11 + 1) (fun s12 =>
        gR s12 a1 13 13 (fun q13 =>
        gR s12 a1 13 13 (fun q14 =>
        aI s12 q14 100 x4 (fun v15 =>
        lt (if (0 : Int32) < (v15 - 10) then (v15 - 10) else (0 : Int32)) (fun v16 =>
        uI s12 q13 x4 v16 (fun s17 =>
        fL_act_1350 sc n a0 a1 x4 s17)))))))))))))))))))
def fL_act_1012 (sc : Nat × (Nat → Int32))  (a0 : Nat) (x4 : Int32) (x5 : Int32) (s0 : AS) : Option AR :=
  nA s0 100 2 (fun q1 s2 =>
  uI s2 q1 0 x4 (fun s3 =>
  uI s3 q1 1 x5 (fun s4 =>
  cR s4 (fL_thrown a0 17 q1 s4) (qI (fun v5 s6 =>
  if v5 = (3 : Int32) then (
    rZ 1 s6)
  else (
    rZ 0 s6))))))
def fL_act_884 (sc : Nat × (Nat → Int32))  (t0 : Nat) (t1 : Int32) (t2 : Nat) (t3 : Nat) (t4 : Int32) (t5 : Int32) (s0 : AS) : Option AR :=
  uI s0 t3 t4 t5 (fun s1 =>
  cR s1 (fL_thrown t0 t1 t2 s1) (qI (fun v2 s3 =>
  if v2 = (3 : Int32) then (
    rZ 1 s3)
  else (
    rZ 0 s3))))
def fL_act_861 (sc : Nat × (Nat → Int32))  (a0 : Nat) (x4 : Int32) (x5 : Int32) (s0 : AS) : Option AR :=
  nA s0 100 2 (fun q1 s2 =>
  uI s2 q1 0 x4 (fun s3 =>
  if x5 = 0 then (
    fL_act_884 sc a0 16 q1 q1 1 0 s3)
  else (
    fL_act_884 sc a0 16 q1 q1 1 1 s3)))
def fL_act_933 (sc : Nat × (Nat → Int32))  (a0 : Nat) (a1 : Nat) (x4 : Int32) (x5 : Int32) (t0 : Nat) (t1 : Int32) (t2 : Int32) (s0 : AS) : Option AR :=
  uI s0 t0 t1 t2 (fun s1 =>
  gR s1 a1 13 12 (fun q2 =>
  uI s1 q2 x4 0 (fun s3 =>
  cV s3 a0 10 (fX6_quoin a0 x4 x5 s3) (qI (fun v4 s5 =>
  cV s5 a1 13 (fX19_gap a1 x4 s5) (qI (fun v6 s7 =>
  if v4 = v6 then (
    rZ 1 s7)
  else (
    rZ 0 s7))))))))
def fL_act_913 (sc : Nat × (Nat → Int32))  (a0 : Nat) (a1 : Nat) (x4 : Int32) (x5 : Int32) (t0 : Nat) (t1 : Int32) (t2 : Int32) (s0 : AS) : Option AR :=
  sI s0 t0 13 15 (t1 + t2) (fun s1 =>
  gR s1 a1 13 11 (fun q2 =>
  if x5 = 0 then (
    fL_act_933 sc a0 a1 x4 x5 q2 x4 ((-1)) s1)
  else (
    fL_act_933 sc a0 a1 x4 x5 q2 x4 0 s1)))
def fL_act_898 (sc : Nat × (Nat → Int32))  (a0 : Nat) (a1 : Nat) (x4 : Int32) (x5 : Int32) (s0 : AS) : Option AR :=
  gI s0 a1 13 15 (fun v1 =>
  if x5 = 0 then (
    fL_act_913 sc a0 a1 x4 x5 a1 v1 1 s0)
  else (
    fL_act_913 sc a0 a1 x4 x5 a1 v1 ((-1)) s0))
def fL_act_831 (sc : Nat × (Nat → Int32))  (a0 : Nat) (a1 : Nat) (x4 : Int32) (x5 : Int32) (t0 : Int32) (t1 : Int32) (s0 : AS) : Option AR :=
  if t0 = t1 then (
    fL_act_861 sc a0 x4 x5 s0)
  else (
    if x5 = 0 then (
      fL_act_898 sc a0 a1 x4 x5 s0)
    else (
      gI s0 a1 13 15 (fun v1 =>
      if v1 = 0 then (
        fL_act_861 sc a0 x4 x5 s0)
      else (
        cV s0 a1 13 (fX19_gap a1 x4 s0) (qI (fun v2 s3 =>
        gR s3 a1 13 1 (fun q4 =>
        aI s3 q4 100 2 (fun v5 =>
        if v5 ≤ v2 then (
          fL_act_898 sc a0 a1 x4 x5 s3)
        else (
          fL_act_861 sc a0 x4 x5 s3)))))))))
def fL_act_812 (sc : Nat × (Nat → Int32))  (a0 : Nat) (a1 : Nat) (x4 : Int32) (t0 : Int32) (s0 : AS) : Option AR :=
  gR s0 a1 13 11 (fun q1 =>
  aI s0 q1 100 x4 (fun v2 =>
  if v2 < 0 then (
    fL_act_831 sc a0 a1 x4 t0 t0 0 s0)
  else (
    fL_act_831 sc a0 a1 x4 t0 t0 1 s0)))
def fL_act_751 (sc : Nat × (Nat → Int32))  (a0 : Nat) (a1 : Nat) (x4 : Int32) (x5 : Int32) (x6 : Int32) (s0 : AS) : Option AR :=
  gR s0 a1 13 10 (fun q1 =>
  aI s0 q1 100 x4 (fun v2 =>
  uI s0 q1 x4 (v2 - 1) (fun s3 =>
  gR s3 a1 13 3 (fun q4 =>
  aI s3 q4 100 x6 (fun v5 =>
  uI s3 q4 x6 (v5 + 1) (fun s6 =>
  cV s6 a0 10 (fX6_take a0 x4 x5 s6) (qI (fun v7 s8 =>
  if v7 = x6 then (
    rZ 1 s8)
  else (
    rZ 0 s8)))))))))
def fL_act_709 (sc : Nat × (Nat → Int32))  : Nat → Nat → Nat → Int32 → Int32 → Int32 → Int32 → AS → Option AR
  | 0, _, _, _, _, _, _, _ => none
  | n + 1, a0, a1, x4, x5, x6, x7, s0 =>
    gR s0 a1 13 10 (fun q1 =>
    aI s0 q1 100 x4 (fun v2 =>
    if v2 ≤ (x7 + 1) then (
      fL_act_751 sc a0 a1 x4 x5 x6 s0)
    else (
      gR s0 a1 13 8 (fun q3 =>
      aR s0 q3 110 x4 (fun q4 =>
      gR s0 a1 13 8 (fun q5 =>
      aR s0 q5 110 x4 (fun q6 =>
      aI s0 q6 100 (x7 + 1) (fun v7 =>
      uI s0 q4 x7 v7 (fun s8 =>
      lt (x7 + 1) (fun v9 =>
      fL_act_709 sc n a0 a1 x4 x5 x6 v9 s8))))))))))
def fL_act_573 (sc : Nat × (Nat → Int32))  (a0 : Nat) (x4 : Int32) (x5 : Int32) (s0 : AS) : Option AR :=
  nA s0 100 2 (fun q1 s2 =>
  uI s2 q1 0 x4 (fun s3 =>
  uI s3 q1 1 x5 (fun s4 =>
  cR s4 (fL_thrown a0 14 q1 s4) (qI (fun v5 s6 =>
  if v5 = (3 : Int32) then (
    rZ 1 s6)
  else (
    rZ 0 s6))))))
def fL_act_463 (sc : Nat × (Nat → Int32))  (a0 : Nat) (a1 : Nat) (x4 : Int32) (x5 : Int32) (x6 : Int32) (s0 : AS) : Option AR :=
  gR s0 a1 13 9 (fun q1 =>
  aI s0 q1 100 x4 (fun v2 =>
  uI s0 q1 x4 (v2 - 1) (fun s3 =>
  cV s3 a0 10 (fX6_lift a0 x4 x5 s3) (qI (fun v4 s5 =>
  if v4 = x6 then (
    rZ 1 s5)
  else (
    rZ 0 s5))))))
def fL_act_421 (sc : Nat × (Nat → Int32))  : Nat → Nat → Nat → Int32 → Int32 → Int32 → Int32 → AS → Option AR
  | 0, _, _, _, _, _, _, _ => none
  | n + 1, a0, a1, x4, x5, x6, x7, s0 =>
    gR s0 a1 13 9 (fun q1 =>
    aI s0 q1 100 x4 (fun v2 =>
    if v2 ≤ (x7 + 1) then (
      fL_act_463 sc a0 a1 x4 x5 x6 s0)
    else (
      gR s0 a1 13 7 (fun q3 =>
      aR s0 q3 110 x4 (fun q4 =>
      gR s0 a1 13 7 (fun q5 =>
      aR s0 q5 110 x4 (fun q6 =>
      aI s0 q6 100 (x7 + 1) (fun v7 =>
      uI s0 q4 x7 v7 (fun s8 =>
      lt (x7 + 1) (fun v9 =>
      fL_act_421 sc n a0 a1 x4 x5 x6 v9 s8))))))))))
def fL_act_244 (sc : Nat × (Nat → Int32))  (a0 : Nat) (x4 : Int32) (x5 : Int32) (s0 : AS) : Option AR :=
  nA s0 100 2 (fun q1 s2 =>
  uI s2 q1 0 x4 (fun s3 =>
  uI s3 q1 1 x5 (fun s4 =>
  cR s4 (fL_thrown a0 12 q1 s4) (qI (fun v5 s6 =>
  if v5 = (3 : Int32) then (
    rZ 1 s6)
  else (
    rZ 0 s6))))))
def fL_act_216 (sc : Nat × (Nat → Int32))  (a0 : Nat) (a1 : Nat) (x4 : Int32) (t0 : Nat) (t1 : Int32) (t2 : Int32) (s0 : AS) : Option AR :=
  cV s0 t0 11 (fX17_next sc t0 t1 t2 s0) (qI (fun v1 s2 =>
  gR s2 a1 13 9 (fun q3 =>
  aI s2 q3 100 x4 (fun v4 =>
  if v4 = (6 : Int32) then (
    fL_act_244 sc a0 x4 v1 s2)
  else (
    cV s2 a1 13 (fX19_gap a1 x4 s2) (qI (fun v5 s6 =>
    if v1 ≤ v5 then (
      gR s6 a1 13 7 (fun q7 =>
      aR s6 q7 110 x4 (fun q8 =>
      gR s6 a1 13 9 (fun q9 =>
      aI s6 q9 100 x4 (fun v10 =>
      uI s6 q8 v10 v1 (fun s11 =>
      gR s11 a1 13 9 (fun q12 =>
      aI s11 q12 100 x4 (fun v13 =>
      uI s11 q12 x4 (v13 + 1) (fun s14 =>
      cV s14 a0 10 (fX6_place a0 x4 v1 s14) (qI (fun v15 s16 =>
      cV s16 a1 13 (fX19_gap a1 x4 s16) (qI (fun v17 s18 =>
      if v15 = v17 then (
        nA s18 100 2 (fun q19 s20 =>
        uI s20 q19 0 x4 (fun s21 =>
        uI s21 q19 1 0 (fun s22 =>
        cR s22 (fL_thrown a0 12 q19 s22) (qI (fun v23 s24 =>
        if v23 = (3 : Int32) then (
          rZ 1 s24)
        else (
          rZ 0 s24)))))))
      else (
        rZ 0 s18))))))))))))))
    else (
      fL_act_244 sc a0 x4 v1 s6))))))))
def fL_act_151 (sc : Nat × (Nat → Int32))  (a0 : Nat) (a1 : Nat) (x5 : Int32) (x6 : Int32) (s0 : AS) : Option AR :=
  cV s0 a0 10 (fX6_rest a0 x5 s0) (qI (fun v1 s2 =>
  gR s2 a1 13 5 (fun q3 =>
  aI s2 q3 100 4 (fun v4 =>
  if v1 = (v4 - x6) then (
    nA s2 100 1 (fun q5 s6 =>
    uI s6 q5 0 0 (fun s7 =>
    cR s7 (fL_thrown a0 22 q5 s7) (qI (fun v8 s9 =>
    if v8 = (3 : Int32) then (
      rZ 1 s9)
    else (
      rZ 0 s9))))))
  else (
    rZ 0 s2)))))
def fL_act_132 (sc : Nat × (Nat → Int32))  : Nat → Nat → Nat → Int32 → Int32 → Int32 → AS → Option AR
  | 0, _, _, _, _, _, _ => none
  | n + 1, a0, a1, x5, x6, x7, s0 =>
    if x5 ≤ x7 then (
      fL_act_151 sc a0 a1 x5 x6 s0)
    else (
      cV s0 a1 13 (fX19_day a1 s0) (qI (fun v1 s2 =>
      lt (x7 + 1) (fun v3 =>
      fL_act_132 sc n a0 a1 x5 x6 v3 s2))))
def fL_act_66 (sc : Nat × (Nat → Int32))  (a0 : Nat) (a1 : Nat) (x5 : Int32) (x6 : Int32) (s0 : AS) : Option AR :=
  cV s0 a0 10 (fX6_print a0 x5 s0) (qI (fun v1 s2 =>
  gR s2 a1 13 5 (fun q3 =>
  aI s2 q3 100 1 (fun v4 =>
  if v1 = (v4 - x6) then (
    nA s2 100 1 (fun q5 s6 =>
    uI s6 q5 0 101 (fun s7 =>
    cR s7 (fL_thrown a0 21 q5 s7) (qI (fun v8 s9 =>
    if v8 = (3 : Int32) then (
      rZ 1 s9)
    else (
      rZ 0 s9))))))
  else (
    rZ 0 s2)))))
def fL_act_47 (sc : Nat × (Nat → Int32))  : Nat → Nat → Nat → Int32 → Int32 → Int32 → AS → Option AR
  | 0, _, _, _, _, _, _ => none
  | n + 1, a0, a1, x5, x6, x7, s0 =>
    if x5 ≤ x7 then (
      fL_act_66 sc a0 a1 x5 x6 s0)
    else (
      cV s0 a1 13 (fX19_print a1 s0) (qI (fun v1 s2 =>
      lt (x7 + 1) (fun v3 =>
      fL_act_47 sc n a0 a1 x5 x6 v3 s2))))
def fL_act (sc : Nat × (Nat → Int32)) (a0 : Nat) (a1 : Nat) (a2 : Nat) (s0 : AS) : Option AR :=
  cV s0 a2 11 (fX17_next sc a2 0 16 s0) (qI (fun v1 s2 =>
  gR s2 a1 13 1 (fun q3 =>
  aI s2 q3 100 1 (fun v4 =>
  cV s2 a2 11 (fX17_next sc a2 0 (v4 - 1) s2) (qI (fun v5 s6 =>
  if (2 : Int32) ≤ v1 then (
    if v1 = (2 : Int32) then (
      cV s6 a2 11 (fX17_next sc a2 1 5 s6) (qI (fun v167 s168 =>
      gR s168 a1 13 5 (fun q169 =>
      aI s168 q169 100 4 (fun v170 =>
      fL_act_132 sc FU a0 a1 v167 v170 0 s168)))))
    else (
      if (5 : Int32) ≤ v1 then (
        if v1 = (5 : Int32) then (
          gR s6 a1 13 9 (fun q150 =>
          aI s6 q150 100 v5 (fun v151 =>
          if v151 = 0 then (
            nA s6 100 2 (fun q159 s160 =>
            uI s160 q159 0 v5 (fun s161 =>
            uI s161 q159 1 0 (fun s162 =>
            cR s162 (fL_thrown a0 13 q159 s162) (qI (fun v163 s164 =>
            if v163 = (2 : Int32) then (
              rZ 1 s164)
            else (
              rZ 0 s164)))))))
          else (
            gR s6 a1 13 9 (fun q152 =>
            aI s6 q152 100 v5 (fun v153 =>
            cV s6 a2 11 (fX17_next sc a2 0 (v153 - 1) s6) (qI (fun v154 s155 =>
            gR s155 a1 13 7 (fun q156 =>
            aR s155 q156 110 v5 (fun q157 =>
            aI s155 q157 100 v154 (fun v158 =>
            fL_act_421 sc FU a0 a1 v5 v154 v158 v154 s155)))))))))))
        else (
          if (8 : Int32) ≤ v1 then (
            if v1 = (8 : Int32) then (
              gR s6 a1 13 10 (fun q114 =>
              aI s6 q114 100 v5 (fun v115 =>
              if v115 = 0 then (
                nA s6 100 2 (fun q123 s124 =>
                uI s124 q123 0 v5 (fun s125 =>
                uI s125 q123 1 0 (fun s126 =>
                cR s126 (fL_thrown a0 15 q123 s126) (qI (fun v127 s128 =>
                if v127 = (2 : Int32) then (
                  rZ 1 s128)
                else (
                  rZ 0 s128)))))))
              else (
                gR s6 a1 13 10 (fun q116 =>
                aI s6 q116 100 v5 (fun v117 =>
                cV s6 a2 11 (fX17_next sc a2 0 (v117 - 1) s6) (qI (fun v118 s119 =>
                gR s119 a1 13 8 (fun q120 =>
                aR s119 q120 110 v5 (fun q121 =>
                aI s119 q121 100 v118 (fun v122 =>
                fL_act_709 sc FU a0 a1 v5 v118 v122 v118 s119)))))))))))
            else (
              if v1 = (9 : Int32) then (
                cV s6 a2 11 (fX17_next sc a2 0 1 s6) (qI (fun v112 s113 =>
                if v112 = 0 then (
                  fL_act_812 sc a0 a1 v5 1 s113)
                else (
                  fL_act_812 sc a0 a1 v5 0 s113))))
              else (
                if v1 = (10 : Int32) then (
                  gR s6 a1 13 1 (fun q86 =>
                  aI s6 q86 100 3 (fun v87 =>
                  cV s6 a2 11 (fX17_next sc a2 0 v87 s6) (qI (fun v88 s89 =>
                  gR s89 a1 13 11 (fun q90 =>
                  aI s89 q90 100 v5 (fun v91 =>
                  if v91 < 0 then (
                    fL_act_1012 sc a0 v5 v88 s89)
                  else (
                    cV s89 a1 13 (fX19_need a1 v5 s89) (qI (fun v92 s93 =>
                    gR s93 a1 13 1 (fun q94 =>
                    aI s93 q94 100 2 (fun v95 =>
                    if (v95 + v88) ≤ v92 then (
                      gR s93 a1 13 11 (fun q96 =>
                      uI s93 q96 v5 v88 (fun s97 =>
                      gR s97 a1 13 12 (fun q98 =>
                      uI s97 q98 v5 0 (fun s99 =>
                      cV s99 a0 10 (fX6_open a0 v5 v88 s99) (qI (fun v100 s101 =>
                      cV s101 a1 13 (fX19_gap a1 v5 s101) (qI (fun v102 s103 =>
                      if v100 = v102 then (
                        nA s103 100 2 (fun q104 s105 =>
                        uI s105 q104 0 v5 (fun s106 =>
                        gR s106 a1 13 1 (fun q107 =>
                        aI s106 q107 100 3 (fun v108 =>
                        uI s106 q104 1 (v108 + 1) (fun s109 =>
                        cR s109 (fL_thrown a0 17 q104 s109) (qI (fun v110 s111 =>
                        if v110 = (3 : Int32) then (
                          rZ 1 s111)
                        else (
                          rZ 0 s111)))))))))
                      else (
                        rZ 0 s103))))))))))
                    else (
                      fL_act_1012 sc a0 v5 v88 s93)))))))))))))
                else (
                  if (13 : Int32) ≤ v1 then (
                    if v1 = (13 : Int32) then (
                      cV s6 a0 10 (fX6_unlock a0 v5 s6) (qI (fun v69 s70 =>
                      cV s70 a1 13 (fX19_unlock a1 v5 s70) (qI (fun v71 s72 =>
                      if v69 = v71 then (
                        rZ 1 s72)
                      else (
                        rZ 0 s72))))))
                    else (
                      if v1 = (14 : Int32) then (
                        nO s6 13 16 (fun q49 s50 =>
                        cS s50 (fX19_init_ q49 a1 s50) (qV (fun s51 =>
                        cV s51 q49 13 (fX19_unlock q49 v5 s51) (qI (fun v52 s53 =>
                        cV s53 q49 13 (fX19_lock q49 v5 s53) (qI (fun v54 s55 =>
                        if v54 = 0 then (
                          nA s55 100 1 (fun q64 s65 =>
                          uI s65 q64 0 v5 (fun s66 =>
                          cR s66 (fL_thrown a0 19 q64 s66) (qI (fun v67 s68 =>
                          if v67 = (3 : Int32) then (
                            rZ 1 s68)
                          else (
                            rZ 0 s68))))))
                        else (
                          cV s55 a1 13 (fX19_unlock a1 v5 s55) (qI (fun v56 s57 =>
                          cV s57 a1 13 (fX19_lock a1 v5 s57) (qI (fun v58 s59 =>
                          if v58 = 0 then (
                            rZ 0 s59)
                          else (
                            cV s59 a0 10 (fX6_relock a0 v5 s59) (qI (fun v60 s61 =>
                            gR s61 a1 13 10 (fun q62 =>
                            aI s61 q62 100 v5 (fun v63 =>
                            if v60 = v63 then (
                              rZ 1 s61)
                            else (
                              rZ 0 s61)))))))))))))))))))
                      else (
                        if v1 = (15 : Int32) then (
                          gR s6 a1 13 11 (fun q42 =>
                          aI s6 q42 100 v5 (fun v43 =>
                          if 0 ≤ v43 then (
                            fL_act_1350 sc FU a0 a1 v5 s6)
                          else (
                            nA s6 100 1 (fun q44 s45 =>
                            uI s45 q44 0 v5 (fun s46 =>
                            cR s46 (fL_thrown a0 20 q44 s46) (qI (fun v47 s48 =>
                            if v47 = (3 : Int32) then (
                              rZ 1 s48)
                            else (
                              rZ 0 s48)))))))))
                        else (
                          gI s6 a1 13 14 (fun v7 =>
                          if v7 = 0 then (
                            nA s6 100 2 (fun q36 s37 =>
                            uI s37 q36 0 0 (fun s38 =>
                            uI s38 q36 1 1 (fun s39 =>
                            cR s39 (fL_thrown a0 23 q36 s39) (qI (fun v40 s41 =>
                            if v40 = (2 : Int32) then (
                              rZ 1 s41)
                            else (
                              rZ 0 s41)))))))
                          else (
                            gI s6 a1 13 14 (fun v8 =>
                            cV s6 a2 11 (fX17_next sc a2 0 (v8 - 1) s6) (qI (fun v9 s10 =>
                            cV s10 a2 11 (fX17_next sc a2 1 3 s10) (qI (fun v11 s12 =>
                            gR s12 a1 13 3 (fun q13 =>
                            aI s12 q13 100 v9 (fun v14 =>
                            if (v14 + v11) ≤ (14 : Int32) then (
                              gR s12 a1 13 3 (fun q15 =>
                              aI s12 q15 100 v9 (fun v16 =>
                              uI s12 q15 v9 (v16 + v11) (fun s17 =>
                              cV s17 a0 10 (fX6_buy a0 v9 v11 s17) (qI (fun v18 s19 =>
                              gR s19 a1 13 3 (fun q20 =>
                              aI s19 q20 100 v9 (fun v21 =>
                              if v18 = v21 then (
                                nA s19 100 2 (fun q22 s23 =>
                                uI s23 q22 0 v9 (fun s24 =>
                                gR s24 a1 13 3 (fun q25 =>
                                aI s24 q25 100 v9 (fun v26 =>
                                uI s24 q22 1 (100 - v26) (fun s27 =>
                                cR s27 (fL_thrown a0 23 q22 s27) (qI (fun v28 s29 =>
                                if v28 = (3 : Int32) then (
                                  rZ 1 s29)
                                else (
                                  rZ 0 s29)))))))))
                              else (
                                rZ 0 s19)))))))))
                            else (
                              nA s12 100 2 (fun q30 s31 =>
                              uI s31 q30 0 v9 (fun s32 =>
                              uI s32 q30 1 100 (fun s33 =>
                              cR s33 (fL_thrown a0 23 q30 s33) (qI (fun v34 s35 =>
                              if v34 = (3 : Int32) then (
                                rZ 1 s35)
                              else (
                                rZ 0 s35))))))))))))))))))))
                  else (
                    gR s6 a1 13 10 (fun q73 =>
                    aI s6 q73 100 v5 (fun v74 =>
                    cV s6 a1 13 (fX19_lock a1 v5 s6) (qI (fun v75 s76 =>
                    if v75 = 0 then (
                      nA s76 100 1 (fun q77 s78 =>
                      uI s78 q77 0 v5 (fun s79 =>
                      cR s79 (fL_thrown a0 18 q77 s79) (qI (fun v80 s81 =>
                      if v80 = (3 : Int32) then (
                        rZ 1 s81)
                      else (
                        rZ 0 s81))))))
                    else (
                      cV s76 a0 10 (fX6_lock a0 v5 s76) (qI (fun v82 s83 =>
                      gR s83 a1 13 10 (fun q84 =>
                      aI s83 q84 100 v5 (fun v85 =>
                      if v82 = (v85 - v74) then (
                        rZ 1 s83)
                      else (
                        rZ 0 s83)))))))))))))))
          else (
            gI s6 a1 13 14 (fun v129 =>
            if v129 = 0 then (
              nA s6 100 2 (fun q144 s145 =>
              uI s145 q144 0 v5 (fun s146 =>
              uI s146 q144 1 0 (fun s147 =>
              cR s147 (fL_thrown a0 14 q144 s147) (qI (fun v148 s149 =>
              if v148 = (2 : Int32) then (
                rZ 1 s149)
              else (
                rZ 0 s149)))))))
            else (
              gI s6 a1 13 14 (fun v130 =>
              cV s6 a2 11 (fX17_next sc a2 0 (v130 - 1) s6) (qI (fun v131 s132 =>
              gR s132 a1 13 3 (fun q133 =>
              aI s132 q133 100 v131 (fun v134 =>
              if v134 = 0 then (
                fL_act_573 sc a0 v5 v131 s132)
              else (
                gR s132 a1 13 2 (fun q135 =>
                aI s132 q135 100 v131 (fun v136 =>
                cV s132 a1 13 (fX19_gap a1 v5 s132) (qI (fun v137 s138 =>
                if v136 ≤ v137 then (
                  cV s138 a1 13 (fX19_puts a1 v5 v131 s138) (qV (fun s139 =>
                  cV s139 a0 10 (fX6_put a0 v5 v131 s139) (qI (fun v140 s141 =>
                  cV s141 a1 13 (fX19_gap a1 v5 s141) (qI (fun v142 s143 =>
                  if v140 = v142 then (
                    rZ 1 s143)
                  else (
                    rZ 0 s143))))))))
                else (
                  fL_act_573 sc a0 v5 v131 s138))))))))))))))))
      else (
        cV s6 a2 11 (fX17_next sc a2 0 1 s6) (qI (fun v165 s166 =>
        if v165 = 0 then (
          fL_act_216 sc a0 a1 v5 a2 1 200 s166)
        else (
          fL_act_216 sc a0 a1 v5 a2 1 9 s166))))))
  else (
    cV s6 a2 11 (fX17_next sc a2 1 5 s6) (qI (fun v171 s172 =>
    gR s172 a1 13 5 (fun q173 =>
    aI s172 q173 100 1 (fun v174 =>
    fL_act_47 sc FU a0 a1 v171 v174 0 s172)))))))))))
set_option maxHeartbeats 4000000 in
theorem oL_act_1422 {Γ : CX} (C : OKC Γ cL_act RL (some (.boolean))) (T : ∀ z ∈ (cx_c Γ).exceptionTable.toList, False) (hn : cx_nL Γ = 9) (hR : cx_fr Γ = 12 ∧ cx_lo Γ = 301) (hin : (cx_meth Γ).name = yL_act.name) {sc : Nat × (Nat → Int32)} (hsc : ax_scr (cx_ad Γ) = sc) : ∀ (a0 : Nat) (a1 : Nat) (x4 : Int32) (s0 : AS), OK Γ 1422 [(0, .ref a0), (1, .ref a1), (4, .int x4)] [] (fL_act_1422 sc  a0 a1 x4 s0) s0 := by
  intro a0 a1 x4 s0
  unfold fL_act_1422
  refine ok_aload_n C 0 dL_act_1422 rfl ?_
  refine ok_iload C 2 dL_act_1423 rfl ?_
  refine ok_callV C T [.int x4] (F := fX6_tighten a0 x4) (ctX6_tighten (C.2.2.2.2.2.2.2.2.1) a0 x4) vlL_95 viX6_tighten rfl rfl (by decide) rfl (by rw [hR.1, hR.2]; decide) (Nat.le_of_ble_eq_true rfl) dL_act_1425 (ok_qI fun v1 s2 => ?_)
  refine ok_aload_n C 1 dL_act_1428 rfl ?_
  refine ok_getNR C fnrL_151_13 dL_act_1429 (fun q3 => ?_)
  refine ok_iload C 2 dL_act_1432 rfl ?_
  refine ok_iald C dL_act_1434 (fun v4 => ?_)
  refine ok_icmp_ne C 1442 dL_act_1435 (by decide) ?_ ?_
  · refine ok_iconst C (v := 0) dL_act_1442 (by decide) ?_
    exact ok_zreturn C dL_act_1443
  · refine ok_iconst C (v := 1) dL_act_1438 (by decide) ?_
    refine ok_goto C 1443 dL_act_1439 (by decide) ?_
    exact ok_zreturn C dL_act_1443
set_option maxHeartbeats 4000000 in
theorem oL_act_1350 {Γ : CX} (C : OKC Γ cL_act RL (some (.boolean))) (T : ∀ z ∈ (cx_c Γ).exceptionTable.toList, False) (hn : cx_nL Γ = 9) (hR : cx_fr Γ = 12 ∧ cx_lo Γ = 301) (hin : (cx_meth Γ).name = yL_act.name) {sc : Nat × (Nat → Int32)} (hsc : ax_scr (cx_ad Γ) = sc) : ∀ (n : Nat) (a0 : Nat) (a1 : Nat) (x4 : Int32) (s0 : AS), OK Γ 1350 [(0, .ref a0), (1, .ref a1), (4, .int x4)] [] (fL_act_1350 sc n a0 a1 x4 s0) s0 := by
  intro n
  induction n with
  | zero => intro _ _ _ s0; exact OK.none
  | succ n ih =>
    intro a0 a1 x4 s0
    rw [fL_act_1350]
    refine ok_aload_n C 1 dL_act_1350 rfl ?_
    refine ok_getNR C fnrL_140_13 dL_act_1351 (fun q1 => ?_)
    refine ok_iload C 2 dL_act_1354 rfl ?_
    refine ok_iald C dL_act_1356 (fun v2 => ?_)
    refine ok_aload_n C 1 dL_act_1357 rfl ?_
    refine ok_getNR C fnrL_134_13 dL_act_1358 (fun q3 => ?_)
    refine ok_iconst C (v := 3) dL_act_1361 (by decide) ?_
    refine ok_iald C dL_act_1362 (fun v4 => ?_)
    refine ok_icmp_ge C 1422 dL_act_1363 (by decide) ?_ ?_
    · exact oL_act_1422 C T hn hR hin hsc a0 a1 x4 s0
    · refine ok_aload_n C 1 dL_act_1366 rfl ?_
      refine ok_getNR C fnrL_151_13 dL_act_1367 (fun q5 => ?_)
      refine ok_iload C 2 dL_act_1370 rfl ?_
      refine ok_iald C dL_act_1372 (fun v6 => ?_)
      refine ok_if_le C 1422 dL_act_1373 (by decide) ?_ ?_
      · exact oL_act_1422 C T hn hR hin hsc a0 a1 x4 s0
      · refine ok_aload_n C 1 dL_act_1376 rfl ?_
        refine ok_getNR C fnrL_140_13 dL_act_1377 (fun q7 => ?_)
        refine ok_iload C 2 dL_act_1380 rfl ?_
        refine ok_dup2 C dL_act_1382 rfl rfl ?_
        refine ok_iald C dL_act_1383 (fun v8 => ?_)
        refine ok_iconst C (v := 1) dL_act_1384 (by decide) ?_
        refine ok_iadd C dL_act_1385 ?_
        refine ok_iast C dL_act_1386 (fun s9 _ => ?_)
        refine ok_aload_n C 1 dL_act_1387 rfl ?_
        refine ok_getNR C fnrL_160_13 dL_act_1388 (fun q10 => ?_)
        refine ok_iload C 2 dL_act_1391 rfl ?_
        refine ok_dup2 C dL_act_1393 rfl rfl ?_
        refine ok_iald C dL_act_1394 (fun v11 => ?_)
        refine ok_iconst C (v := 1) dL_act_1395 (by decide) ?_
        refine ok_iadd C dL_act_1396 ?_
        refine ok_iast C dL_act_1397 (fun s12 _ => ?_)
        refine ok_aload_n C 1 dL_act_1398 rfl ?_
        refine ok_getNR C fnrL_151_13 dL_act_1399 (fun q13 => ?_)
        refine ok_iload C 2 dL_act_1402 rfl ?_
        refine ok_iconst C (v := 0) dL_act_1404 (by decide) ?_
        refine ok_aload_n C 1 dL_act_1405 rfl ?_
        refine ok_getNR C fnrL_151_13 dL_act_1406 (fun q14 => ?_)
        refine ok_iload C 2 dL_act_1409 rfl ?_
        refine ok_iald C dL_act_1411 (fun v15 => ?_)
        refine ok_bipush C (v := 10) dL_act_1412 (by decide) ?_
        refine ok_isub C dL_act_1414 ?_
        refine ok_mmax C mlL_231 (by rw [hR.1]; decide) (by rw [hR.2]; exact Nat.le_of_ble_eq_true rfl) dL_act_1415 ?_
        refine ok_lt (fun v16 => ?_)
        refine ok_iast C dL_act_1418 (fun s17 _ => ?_)
        refine ok_goto C 1350 dL_act_1419 (by decide) ?_
        exact ih a0 a1 x4 s17
set_option maxHeartbeats 4000000 in
theorem oL_act_1012 {Γ : CX} (C : OKC Γ cL_act RL (some (.boolean))) (T : ∀ z ∈ (cx_c Γ).exceptionTable.toList, False) (hn : cx_nL Γ = 9) (hR : cx_fr Γ = 12 ∧ cx_lo Γ = 301) (hin : (cx_meth Γ).name = yL_act.name) {sc : Nat × (Nat → Int32)} (hsc : ax_scr (cx_ad Γ) = sc) : ∀ (a0 : Nat) (x4 : Int32) (x5 : Int32) (s0 : AS), OK Γ 1012 [(0, .ref a0), (4, .int x4), (5, .int x5)] [] (fL_act_1012 sc  a0 x4 x5 s0) s0 := by
  intro a0 x4 x5 s0
  unfold fL_act_1012
  refine ok_aload_n C 0 dL_act_1012 rfl ?_
  refine ok_bipush C (v := 17) dL_act_1013 (by decide) ?_
  refine ok_iconst C (v := 2) dL_act_1015 (by decide) ?_
  refine ok_newI C kw_136 dL_act_1016 (fun q1 s2 => ?_)
  refine ok_dup C dL_act_1018 rfl ?_
  refine ok_iconst C (v := 0) dL_act_1019 (by decide) ?_
  refine ok_iload C 1 dL_act_1020 rfl ?_
  refine ok_iast C dL_act_1022 (fun s3 _ => ?_)
  refine ok_dup C dL_act_1023 rfl ?_
  refine ok_iconst C (v := 1) dL_act_1024 (by decide) ?_
  refine ok_iload C 2 dL_act_1025 rfl ?_
  refine ok_iast C dL_act_1027 (fun s4 _ => ?_)
  refine ok_callSW C [.ref a0, .int 17, .ref q1] (F := fL_thrown a0 17 q1) (ctL_thrown (C.2.2.2.2.2.2.2.2.1) a0 17 q1) vwL_189 rfl (by rw [hR.1, hR.2]; decide) (Nat.le_of_ble_eq_true rfl) dL_act_1028 (ok_qI fun v5 s6 => ?_)
  refine ok_iconst C (v := 3) dL_act_1031 (by decide) ?_
  refine ok_icmp_ne C 1039 dL_act_1032 (by decide) ?_ ?_
  · refine ok_iconst C (v := 0) dL_act_1039 (by decide) ?_
    exact ok_zreturn C dL_act_1040
  · refine ok_iconst C (v := 1) dL_act_1035 (by decide) ?_
    refine ok_goto C 1040 dL_act_1036 (by decide) ?_
    exact ok_zreturn C dL_act_1040
set_option maxHeartbeats 4000000 in
theorem oL_act_884 {Γ : CX} (C : OKC Γ cL_act RL (some (.boolean))) (T : ∀ z ∈ (cx_c Γ).exceptionTable.toList, False) (hn : cx_nL Γ = 9) (hR : cx_fr Γ = 12 ∧ cx_lo Γ = 301) (hin : (cx_meth Γ).name = yL_act.name) {sc : Nat × (Nat → Int32)} (hsc : ax_scr (cx_ad Γ) = sc) : ∀ (t0 : Nat) (t1 : Int32) (t2 : Nat) (t3 : Nat) (t4 : Int32) (t5 : Int32) (s0 : AS), OK Γ 884 [] [.int t5, .int t4, .ref t3, .ref t2, .int t1, .ref t0] (fL_act_884 sc  t0 t1 t2 t3 t4 t5 s0) s0 := by
  intro t0 t1 t2 t3 t4 t5 s0
  unfold fL_act_884
  refine ok_iast C dL_act_884 (fun s1 _ => ?_)
  refine ok_callSW C [.ref t0, .int t1, .ref t2] (F := fL_thrown t0 t1 t2) (ctL_thrown (C.2.2.2.2.2.2.2.2.1) t0 t1 t2) vwL_189 rfl (by rw [hR.1, hR.2]; decide) (Nat.le_of_ble_eq_true rfl) dL_act_885 (ok_qI fun v2 s3 => ?_)
  refine ok_iconst C (v := 3) dL_act_888 (by decide) ?_
  refine ok_icmp_ne C 896 dL_act_889 (by decide) ?_ ?_
  · refine ok_iconst C (v := 0) dL_act_896 (by decide) ?_
    exact ok_zreturn C dL_act_897
  · refine ok_iconst C (v := 1) dL_act_892 (by decide) ?_
    refine ok_goto C 897 dL_act_893 (by decide) ?_
    exact ok_zreturn C dL_act_897
set_option maxHeartbeats 4000000 in
theorem oL_act_861 {Γ : CX} (C : OKC Γ cL_act RL (some (.boolean))) (T : ∀ z ∈ (cx_c Γ).exceptionTable.toList, False) (hn : cx_nL Γ = 9) (hR : cx_fr Γ = 12 ∧ cx_lo Γ = 301) (hin : (cx_meth Γ).name = yL_act.name) {sc : Nat × (Nat → Int32)} (hsc : ax_scr (cx_ad Γ) = sc) : ∀ (a0 : Nat) (x4 : Int32) (x5 : Int32) (s0 : AS), OK Γ 861 [(0, .ref a0), (4, .int x4), (5, .int x5)] [] (fL_act_861 sc  a0 x4 x5 s0) s0 := by
  intro a0 x4 x5 s0
  unfold fL_act_861
  refine ok_aload_n C 0 dL_act_861 rfl ?_
  refine ok_bipush C (v := 16) dL_act_862 (by decide) ?_
  refine ok_iconst C (v := 2) dL_act_864 (by decide) ?_
  refine ok_newI C kw_136 dL_act_865 (fun q1 s2 => ?_)
  refine ok_dup C dL_act_867 rfl ?_
  refine ok_iconst C (v := 0) dL_act_868 (by decide) ?_
  refine ok_iload C 1 dL_act_869 rfl ?_
  refine ok_iast C dL_act_871 (fun s3 _ => ?_)
  refine ok_dup C dL_act_872 rfl ?_
  refine ok_iconst C (v := 1) dL_act_873 (by decide) ?_
  refine ok_iload C 2 dL_act_874 rfl ?_
  refine ok_if_eq C 883 dL_act_876 (by decide) ?_ ?_
  · refine ok_iconst C (v := 0) dL_act_883 (by decide) ?_
    refine OK.sub (lv' := []) [] rfl ?_
    exact oL_act_884 C T hn hR hin hsc a0 16 q1 q1 1 0 s3
  · refine ok_iconst C (v := 1) dL_act_879 (by decide) ?_
    refine ok_goto C 884 dL_act_880 (by decide) ?_
    refine OK.sub (lv' := []) [] rfl ?_
    exact oL_act_884 C T hn hR hin hsc a0 16 q1 q1 1 1 s3
set_option maxHeartbeats 4000000 in
theorem oL_act_933 {Γ : CX} (C : OKC Γ cL_act RL (some (.boolean))) (T : ∀ z ∈ (cx_c Γ).exceptionTable.toList, False) (hn : cx_nL Γ = 9) (hR : cx_fr Γ = 12 ∧ cx_lo Γ = 301) (hin : (cx_meth Γ).name = yL_act.name) {sc : Nat × (Nat → Int32)} (hsc : ax_scr (cx_ad Γ) = sc) : ∀ (a0 : Nat) (a1 : Nat) (x4 : Int32) (x5 : Int32) (t0 : Nat) (t1 : Int32) (t2 : Int32) (s0 : AS), OK Γ 933 [(0, .ref a0), (1, .ref a1), (4, .int x4), (5, .int x5)] [.int t2, .int t1, .ref t0] (fL_act_933 sc  a0 a1 x4 x5 t0 t1 t2 s0) s0 := by
  intro a0 a1 x4 x5 t0 t1 t2 s0
  unfold fL_act_933
  refine ok_iast C dL_act_933 (fun s1 _ => ?_)
  refine ok_aload_n C 1 dL_act_934 rfl ?_
  refine ok_getNR C fnrL_160_13 dL_act_935 (fun q2 => ?_)
  refine ok_iload C 2 dL_act_938 rfl ?_
  refine ok_iconst C (v := 0) dL_act_940 (by decide) ?_
  refine ok_iast C dL_act_941 (fun s3 _ => ?_)
  refine ok_aload_n C 0 dL_act_942 rfl ?_
  refine ok_iload C 2 dL_act_943 rfl ?_
  refine ok_iload C 3 dL_act_945 rfl ?_
  refine ok_callV C T [.int x4, .int x5] (F := fX6_quoin a0 x4 x5) (ctX6_quoin (C.2.2.2.2.2.2.2.2.1) a0 x4 x5) vlL_82 viX6_quoin rfl rfl (by decide) rfl (by rw [hR.1, hR.2]; decide) (Nat.le_of_ble_eq_true rfl) dL_act_947 (ok_qI fun v4 s5 => ?_)
  refine ok_aload_n C 1 dL_act_950 rfl ?_
  refine ok_iload C 2 dL_act_951 rfl ?_
  refine ok_callV C T [.int x4] (F := fX19_gap a1 x4) (ctX19_gap (C.2.2.2.2.2.2.2.2.1) a1 x4) vlL_148 viX19_gap rfl rfl (by decide) rfl (by rw [hR.1, hR.2]; decide) (Nat.le_of_ble_eq_true rfl) dL_act_953 (ok_qI fun v6 s7 => ?_)
  refine ok_icmp_ne C 963 dL_act_956 (by decide) ?_ ?_
  · refine ok_iconst C (v := 0) dL_act_963 (by decide) ?_
    exact ok_zreturn C dL_act_964
  · refine ok_iconst C (v := 1) dL_act_959 (by decide) ?_
    refine ok_goto C 964 dL_act_960 (by decide) ?_
    exact ok_zreturn C dL_act_964
set_option maxHeartbeats 4000000 in
theorem oL_act_913 {Γ : CX} (C : OKC Γ cL_act RL (some (.boolean))) (T : ∀ z ∈ (cx_c Γ).exceptionTable.toList, False) (hn : cx_nL Γ = 9) (hR : cx_fr Γ = 12 ∧ cx_lo Γ = 301) (hin : (cx_meth Γ).name = yL_act.name) {sc : Nat × (Nat → Int32)} (hsc : ax_scr (cx_ad Γ) = sc) : ∀ (a0 : Nat) (a1 : Nat) (x4 : Int32) (x5 : Int32) (t0 : Nat) (t1 : Int32) (t2 : Int32) (s0 : AS), OK Γ 913 [(0, .ref a0), (1, .ref a1), (4, .int x4), (5, .int x5)] [.int t2, .int t1, .ref t0] (fL_act_913 sc  a0 a1 x4 x5 t0 t1 t2 s0) s0 := by
  intro a0 a1 x4 x5 t0 t1 t2 s0
  unfold fL_act_913
  refine ok_iadd C dL_act_913 ?_
  refine ok_putNI C fnlL_197_13 dL_act_914 (fun s1 _ => ?_)
  refine ok_aload_n C 1 dL_act_917 rfl ?_
  refine ok_getNR C fnrL_140_13 dL_act_918 (fun q2 => ?_)
  refine ok_iload C 2 dL_act_921 rfl ?_
  refine ok_iload C 3 dL_act_923 rfl ?_
  refine ok_if_eq C 932 dL_act_925 (by decide) ?_ ?_
  · refine ok_iconst C (v := (-1)) dL_act_932 (by decide) ?_
    exact oL_act_933 C T hn hR hin hsc a0 a1 x4 x5 q2 x4 ((-1)) s1
  · refine ok_iconst C (v := 0) dL_act_928 (by decide) ?_
    refine ok_goto C 933 dL_act_929 (by decide) ?_
    exact oL_act_933 C T hn hR hin hsc a0 a1 x4 x5 q2 x4 0 s1
set_option maxHeartbeats 4000000 in
theorem oL_act_898 {Γ : CX} (C : OKC Γ cL_act RL (some (.boolean))) (T : ∀ z ∈ (cx_c Γ).exceptionTable.toList, False) (hn : cx_nL Γ = 9) (hR : cx_fr Γ = 12 ∧ cx_lo Γ = 301) (hin : (cx_meth Γ).name = yL_act.name) {sc : Nat × (Nat → Int32)} (hsc : ax_scr (cx_ad Γ) = sc) : ∀ (a0 : Nat) (a1 : Nat) (x4 : Int32) (x5 : Int32) (s0 : AS), OK Γ 898 [(0, .ref a0), (1, .ref a1), (4, .int x4), (5, .int x5)] [] (fL_act_898 sc  a0 a1 x4 x5 s0) s0 := by
  intro a0 a1 x4 x5 s0
  unfold fL_act_898
  refine ok_aload_n C 1 dL_act_898 rfl ?_
  refine ok_dup C dL_act_899 rfl ?_
  refine ok_getNI C fnrL_197_13 dL_act_900 (fun v1 => ?_)
  refine ok_iload C 3 dL_act_903 rfl ?_
  refine ok_if_eq C 912 dL_act_905 (by decide) ?_ ?_
  · refine ok_iconst C (v := 1) dL_act_912 (by decide) ?_
    exact oL_act_913 C T hn hR hin hsc a0 a1 x4 x5 a1 v1 1 s0
  · refine ok_iconst C (v := (-1)) dL_act_908 (by decide) ?_
    refine ok_goto C 913 dL_act_909 (by decide) ?_
    exact oL_act_913 C T hn hR hin hsc a0 a1 x4 x5 a1 v1 ((-1)) s0
set_option maxHeartbeats 4000000 in
theorem oL_act_831 {Γ : CX} (C : OKC Γ cL_act RL (some (.boolean))) (T : ∀ z ∈ (cx_c Γ).exceptionTable.toList, False) (hn : cx_nL Γ = 9) (hR : cx_fr Γ = 12 ∧ cx_lo Γ = 301) (hin : (cx_meth Γ).name = yL_act.name) {sc : Nat × (Nat → Int32)} (hsc : ax_scr (cx_ad Γ) = sc) : ∀ (a0 : Nat) (a1 : Nat) (x4 : Int32) (x5 : Int32) (t0 : Int32) (t1 : Int32) (s0 : AS), OK Γ 831 [(0, .ref a0), (1, .ref a1), (4, .int x4), (5, .int x5)] [.int t1, .int t0] (fL_act_831 sc  a0 a1 x4 x5 t0 t1 s0) s0 := by
  intro a0 a1 x4 x5 t0 t1 s0
  unfold fL_act_831
  refine ok_icmp_eq C 861 dL_act_831 (by decide) ?_ ?_
  · refine OK.sub (lv' := [(0, .ref a0), (4, .int x4), (5, .int x5)]) [0, 2, 3] rfl ?_
    exact oL_act_861 C T hn hR hin hsc a0 x4 x5 s0
  · refine ok_iload C 3 dL_act_834 rfl ?_
    refine ok_if_eq C 898 dL_act_836 (by decide) ?_ ?_
    · exact oL_act_898 C T hn hR hin hsc a0 a1 x4 x5 s0
    · refine ok_aload_n C 1 dL_act_839 rfl ?_
      refine ok_getNI C fnrL_197_13 dL_act_840 (fun v1 => ?_)
      refine ok_if_eq C 861 dL_act_843 (by decide) ?_ ?_
      · refine OK.sub (lv' := [(0, .ref a0), (4, .int x4), (5, .int x5)]) [0, 2, 3] rfl ?_
        exact oL_act_861 C T hn hR hin hsc a0 x4 x5 s0
      · refine ok_aload_n C 1 dL_act_846 rfl ?_
        refine ok_iload C 2 dL_act_847 rfl ?_
        refine ok_callV C T [.int x4] (F := fX19_gap a1 x4) (ctX19_gap (C.2.2.2.2.2.2.2.2.1) a1 x4) vlL_148 viX19_gap rfl rfl (by decide) rfl (by rw [hR.1, hR.2]; decide) (Nat.le_of_ble_eq_true rfl) dL_act_849 (ok_qI fun v2 s3 => ?_)
        refine ok_aload_n C 1 dL_act_852 rfl ?_
        refine ok_getNR C fnrL_134_13 dL_act_853 (fun q4 => ?_)
        refine ok_iconst C (v := 2) dL_act_856 (by decide) ?_
        refine ok_iald C dL_act_857 (fun v5 => ?_)
        refine ok_icmp_ge C 898 dL_act_858 (by decide) ?_ ?_
        · exact oL_act_898 C T hn hR hin hsc a0 a1 x4 x5 s3
        · refine OK.sub (lv' := [(0, .ref a0), (4, .int x4), (5, .int x5)]) [0, 2, 3] rfl ?_
          exact oL_act_861 C T hn hR hin hsc a0 x4 x5 s3
set_option maxHeartbeats 4000000 in
theorem oL_act_812 {Γ : CX} (C : OKC Γ cL_act RL (some (.boolean))) (T : ∀ z ∈ (cx_c Γ).exceptionTable.toList, False) (hn : cx_nL Γ = 9) (hR : cx_fr Γ = 12 ∧ cx_lo Γ = 301) (hin : (cx_meth Γ).name = yL_act.name) {sc : Nat × (Nat → Int32)} (hsc : ax_scr (cx_ad Γ) = sc) : ∀ (a0 : Nat) (a1 : Nat) (x4 : Int32) (t0 : Int32) (s0 : AS), OK Γ 812 [(0, .ref a0), (1, .ref a1), (4, .int x4)] [.int t0] (fL_act_812 sc  a0 a1 x4 t0 s0) s0 := by
  intro a0 a1 x4 t0 s0
  unfold fL_act_812
  refine ok_istore C (i := 5) [(5, .int t0), (0, .ref a0), (1, .ref a1), (4, .int x4)] dL_act_812 (by rw [hn]; decide) rfl ?_
  refine ok_iload C 0 dL_act_814 rfl ?_
  refine ok_aload_n C 2 dL_act_816 rfl ?_
  refine ok_getNR C fnrL_140_13 dL_act_817 (fun q1 => ?_)
  refine ok_iload C 3 dL_act_820 rfl ?_
  refine ok_iald C dL_act_822 (fun v2 => ?_)
  refine ok_if_lt C 830 dL_act_823 (by decide) ?_ ?_
  · refine ok_iconst C (v := 0) dL_act_830 (by decide) ?_
    refine OK.sub (lv' := [(0, .ref a0), (1, .ref a1), (4, .int x4), (5, .int t0)]) [1, 2, 3, 0] rfl ?_
    exact oL_act_831 C T hn hR hin hsc a0 a1 x4 t0 t0 0 s0
  · refine ok_iconst C (v := 1) dL_act_826 (by decide) ?_
    refine ok_goto C 831 dL_act_827 (by decide) ?_
    refine OK.sub (lv' := [(0, .ref a0), (1, .ref a1), (4, .int x4), (5, .int t0)]) [1, 2, 3, 0] rfl ?_
    exact oL_act_831 C T hn hR hin hsc a0 a1 x4 t0 t0 1 s0
set_option maxHeartbeats 4000000 in
theorem oL_act_751 {Γ : CX} (C : OKC Γ cL_act RL (some (.boolean))) (T : ∀ z ∈ (cx_c Γ).exceptionTable.toList, False) (hn : cx_nL Γ = 9) (hR : cx_fr Γ = 12 ∧ cx_lo Γ = 301) (hin : (cx_meth Γ).name = yL_act.name) {sc : Nat × (Nat → Int32)} (hsc : ax_scr (cx_ad Γ) = sc) : ∀ (a0 : Nat) (a1 : Nat) (x4 : Int32) (x5 : Int32) (x6 : Int32) (s0 : AS), OK Γ 751 [(0, .ref a0), (1, .ref a1), (4, .int x4), (5, .int x5), (6, .int x6)] [] (fL_act_751 sc  a0 a1 x4 x5 x6 s0) s0 := by
  intro a0 a1 x4 x5 x6 s0
  unfold fL_act_751
  refine ok_aload_n C 1 dL_act_751 rfl ?_
  refine ok_getNR C fnrL_145_13 dL_act_752 (fun q1 => ?_)
  refine ok_iload C 2 dL_act_755 rfl ?_
  refine ok_dup2 C dL_act_757 rfl rfl ?_
  refine ok_iald C dL_act_758 (fun v2 => ?_)
  refine ok_iconst C (v := 1) dL_act_759 (by decide) ?_
  refine ok_isub C dL_act_760 ?_
  refine ok_iast C dL_act_761 (fun s3 _ => ?_)
  refine ok_aload_n C 1 dL_act_762 rfl ?_
  refine ok_getNR C fnrL_178_13 dL_act_763 (fun q4 => ?_)
  refine ok_iload C 4 dL_act_766 rfl ?_
  refine ok_dup2 C dL_act_768 rfl rfl ?_
  refine ok_iald C dL_act_769 (fun v5 => ?_)
  refine ok_iconst C (v := 1) dL_act_770 (by decide) ?_
  refine ok_iadd C dL_act_771 ?_
  refine ok_iast C dL_act_772 (fun s6 _ => ?_)
  refine ok_aload_n C 0 dL_act_773 rfl ?_
  refine ok_iload C 2 dL_act_774 rfl ?_
  refine ok_iload C 3 dL_act_776 rfl ?_
  refine ok_callV C T [.int x4, .int x5] (F := fX6_take a0 x4 x5) (ctX6_take (C.2.2.2.2.2.2.2.2.1) a0 x4 x5) vlL_79 viX6_take rfl rfl (by decide) rfl (by rw [hR.1, hR.2]; decide) (Nat.le_of_ble_eq_true rfl) dL_act_778 (ok_qI fun v7 s8 => ?_)
  refine ok_iload C 4 dL_act_781 rfl ?_
  refine ok_icmp_ne C 790 dL_act_783 (by decide) ?_ ?_
  · refine ok_iconst C (v := 0) dL_act_790 (by decide) ?_
    exact ok_zreturn C dL_act_791
  · refine ok_iconst C (v := 1) dL_act_786 (by decide) ?_
    refine ok_goto C 791 dL_act_787 (by decide) ?_
    exact ok_zreturn C dL_act_791
set_option maxHeartbeats 4000000 in
theorem oL_act_709 {Γ : CX} (C : OKC Γ cL_act RL (some (.boolean))) (T : ∀ z ∈ (cx_c Γ).exceptionTable.toList, False) (hn : cx_nL Γ = 9) (hR : cx_fr Γ = 12 ∧ cx_lo Γ = 301) (hin : (cx_meth Γ).name = yL_act.name) {sc : Nat × (Nat → Int32)} (hsc : ax_scr (cx_ad Γ) = sc) : ∀ (n : Nat) (a0 : Nat) (a1 : Nat) (x4 : Int32) (x5 : Int32) (x6 : Int32) (x7 : Int32) (s0 : AS), OK Γ 709 [(0, .ref a0), (1, .ref a1), (4, .int x4), (5, .int x5), (6, .int x6), (7, .int x7)] [] (fL_act_709 sc n a0 a1 x4 x5 x6 x7 s0) s0 := by
  intro n
  induction n with
  | zero => intro _ _ _ _ _ _ s0; exact OK.none
  | succ n ih =>
    intro a0 a1 x4 x5 x6 x7 s0
    rw [fL_act_709]
    refine ok_iload C 5 dL_act_709 rfl ?_
    refine ok_iconst C (v := 1) dL_act_711 (by decide) ?_
    refine ok_iadd C dL_act_712 ?_
    refine ok_aload_n C 1 dL_act_713 rfl ?_
    refine ok_getNR C fnrL_145_13 dL_act_714 (fun q1 => ?_)
    refine ok_iload C 2 dL_act_717 rfl ?_
    refine ok_iald C dL_act_719 (fun v2 => ?_)
    refine ok_icmp_ge C 751 dL_act_720 (by decide) ?_ ?_
    · refine OK.sub (lv' := [(0, .ref a0), (1, .ref a1), (4, .int x4), (5, .int x5), (6, .int x6)]) [0, 1, 2, 3, 4] rfl ?_
      exact oL_act_751 C T hn hR hin hsc a0 a1 x4 x5 x6 s0
    · refine ok_aload_n C 1 dL_act_723 rfl ?_
      refine ok_getNR C fnrL_167_13 dL_act_724 (fun q3 => ?_)
      refine ok_iload C 2 dL_act_727 rfl ?_
      refine ok_aaldI C dL_act_729 (fun q4 => ?_)
      refine ok_iload C 5 dL_act_730 rfl ?_
      refine ok_aload_n C 1 dL_act_732 rfl ?_
      refine ok_getNR C fnrL_167_13 dL_act_733 (fun q5 => ?_)
      refine ok_iload C 2 dL_act_736 rfl ?_
      refine ok_aaldI C dL_act_738 (fun q6 => ?_)
      refine ok_iload C 5 dL_act_739 rfl ?_
      refine ok_iconst C (v := 1) dL_act_741 (by decide) ?_
      refine ok_iadd C dL_act_742 ?_
      refine ok_iald C dL_act_743 (fun v7 => ?_)
      refine ok_iast C dL_act_744 (fun s8 _ => ?_)
      refine ok_iincL C 5 (c := 1) (fun v9 => [(7, .int v9), (0, .ref a0), (1, .ref a1), (4, .int x4), (5, .int x5), (6, .int x6)]) dL_act_745 rfl rfl (by rw [hn]; decide) (fun _ => rfl) (fun v9 => ?_)
      refine ok_goto C 709 dL_act_748 (by decide) ?_
      refine OK.sub (lv' := [(0, .ref a0), (1, .ref a1), (4, .int x4), (5, .int x5), (6, .int x6), (7, .int v9)]) [1, 2, 3, 4, 5, 0] rfl ?_
      exact ih a0 a1 x4 x5 x6 v9 s8
set_option maxHeartbeats 4000000 in
theorem oL_act_573 {Γ : CX} (C : OKC Γ cL_act RL (some (.boolean))) (T : ∀ z ∈ (cx_c Γ).exceptionTable.toList, False) (hn : cx_nL Γ = 9) (hR : cx_fr Γ = 12 ∧ cx_lo Γ = 301) (hin : (cx_meth Γ).name = yL_act.name) {sc : Nat × (Nat → Int32)} (hsc : ax_scr (cx_ad Γ) = sc) : ∀ (a0 : Nat) (x4 : Int32) (x5 : Int32) (s0 : AS), OK Γ 573 [(0, .ref a0), (4, .int x4), (5, .int x5)] [] (fL_act_573 sc  a0 x4 x5 s0) s0 := by
  intro a0 x4 x5 s0
  unfold fL_act_573
  refine ok_aload_n C 0 dL_act_573 rfl ?_
  refine ok_bipush C (v := 14) dL_act_574 (by decide) ?_
  refine ok_iconst C (v := 2) dL_act_576 (by decide) ?_
  refine ok_newI C kw_136 dL_act_577 (fun q1 s2 => ?_)
  refine ok_dup C dL_act_579 rfl ?_
  refine ok_iconst C (v := 0) dL_act_580 (by decide) ?_
  refine ok_iload C 1 dL_act_581 rfl ?_
  refine ok_iast C dL_act_583 (fun s3 _ => ?_)
  refine ok_dup C dL_act_584 rfl ?_
  refine ok_iconst C (v := 1) dL_act_585 (by decide) ?_
  refine ok_iload C 2 dL_act_586 rfl ?_
  refine ok_iast C dL_act_588 (fun s4 _ => ?_)
  refine ok_callSW C [.ref a0, .int 14, .ref q1] (F := fL_thrown a0 14 q1) (ctL_thrown (C.2.2.2.2.2.2.2.2.1) a0 14 q1) vwL_189 rfl (by rw [hR.1, hR.2]; decide) (Nat.le_of_ble_eq_true rfl) dL_act_589 (ok_qI fun v5 s6 => ?_)
  refine ok_iconst C (v := 3) dL_act_592 (by decide) ?_
  refine ok_icmp_ne C 600 dL_act_593 (by decide) ?_ ?_
  · refine ok_iconst C (v := 0) dL_act_600 (by decide) ?_
    exact ok_zreturn C dL_act_601
  · refine ok_iconst C (v := 1) dL_act_596 (by decide) ?_
    refine ok_goto C 601 dL_act_597 (by decide) ?_
    exact ok_zreturn C dL_act_601
set_option maxHeartbeats 4000000 in
theorem oL_act_463 {Γ : CX} (C : OKC Γ cL_act RL (some (.boolean))) (T : ∀ z ∈ (cx_c Γ).exceptionTable.toList, False) (hn : cx_nL Γ = 9) (hR : cx_fr Γ = 12 ∧ cx_lo Γ = 301) (hin : (cx_meth Γ).name = yL_act.name) {sc : Nat × (Nat → Int32)} (hsc : ax_scr (cx_ad Γ) = sc) : ∀ (a0 : Nat) (a1 : Nat) (x4 : Int32) (x5 : Int32) (x6 : Int32) (s0 : AS), OK Γ 463 [(0, .ref a0), (1, .ref a1), (4, .int x4), (5, .int x5), (6, .int x6)] [] (fL_act_463 sc  a0 a1 x4 x5 x6 s0) s0 := by
  intro a0 a1 x4 x5 x6 s0
  unfold fL_act_463
  refine ok_aload_n C 1 dL_act_463 rfl ?_
  refine ok_getNR C fnrL_142_13 dL_act_464 (fun q1 => ?_)
  refine ok_iload C 2 dL_act_467 rfl ?_
  refine ok_dup2 C dL_act_469 rfl rfl ?_
  refine ok_iald C dL_act_470 (fun v2 => ?_)
  refine ok_iconst C (v := 1) dL_act_471 (by decide) ?_
  refine ok_isub C dL_act_472 ?_
  refine ok_iast C dL_act_473 (fun s3 _ => ?_)
  refine ok_aload_n C 0 dL_act_474 rfl ?_
  refine ok_iload C 2 dL_act_475 rfl ?_
  refine ok_iload C 3 dL_act_477 rfl ?_
  refine ok_callV C T [.int x4, .int x5] (F := fX6_lift a0 x4 x5) (ctX6_lift (C.2.2.2.2.2.2.2.2.1) a0 x4 x5) vlL_73 viX6_lift rfl rfl (by decide) rfl (by rw [hR.1, hR.2]; decide) (Nat.le_of_ble_eq_true rfl) dL_act_479 (ok_qI fun v4 s5 => ?_)
  refine ok_iload C 4 dL_act_482 rfl ?_
  refine ok_icmp_ne C 491 dL_act_484 (by decide) ?_ ?_
  · refine ok_iconst C (v := 0) dL_act_491 (by decide) ?_
    exact ok_zreturn C dL_act_492
  · refine ok_iconst C (v := 1) dL_act_487 (by decide) ?_
    refine ok_goto C 492 dL_act_488 (by decide) ?_
    exact ok_zreturn C dL_act_492
set_option maxHeartbeats 4000000 in
theorem oL_act_421 {Γ : CX} (C : OKC Γ cL_act RL (some (.boolean))) (T : ∀ z ∈ (cx_c Γ).exceptionTable.toList, False) (hn : cx_nL Γ = 9) (hR : cx_fr Γ = 12 ∧ cx_lo Γ = 301) (hin : (cx_meth Γ).name = yL_act.name) {sc : Nat × (Nat → Int32)} (hsc : ax_scr (cx_ad Γ) = sc) : ∀ (n : Nat) (a0 : Nat) (a1 : Nat) (x4 : Int32) (x5 : Int32) (x6 : Int32) (x7 : Int32) (s0 : AS), OK Γ 421 [(0, .ref a0), (1, .ref a1), (4, .int x4), (5, .int x5), (6, .int x6), (7, .int x7)] [] (fL_act_421 sc n a0 a1 x4 x5 x6 x7 s0) s0 := by
  intro n
  induction n with
  | zero => intro _ _ _ _ _ _ s0; exact OK.none
  | succ n ih =>
    intro a0 a1 x4 x5 x6 x7 s0
    rw [fL_act_421]
    refine ok_iload C 5 dL_act_421 rfl ?_
    refine ok_iconst C (v := 1) dL_act_423 (by decide) ?_
    refine ok_iadd C dL_act_424 ?_
    refine ok_aload_n C 1 dL_act_425 rfl ?_
    refine ok_getNR C fnrL_142_13 dL_act_426 (fun q1 => ?_)
    refine ok_iload C 2 dL_act_429 rfl ?_
    refine ok_iald C dL_act_431 (fun v2 => ?_)
    refine ok_icmp_ge C 463 dL_act_432 (by decide) ?_ ?_
    · refine OK.sub (lv' := [(0, .ref a0), (1, .ref a1), (4, .int x4), (5, .int x5), (6, .int x6)]) [0, 1, 2, 3, 4] rfl ?_
      exact oL_act_463 C T hn hR hin hsc a0 a1 x4 x5 x6 s0
    · refine ok_aload_n C 1 dL_act_435 rfl ?_
      refine ok_getNR C fnrL_163_13 dL_act_436 (fun q3 => ?_)
      refine ok_iload C 2 dL_act_439 rfl ?_
      refine ok_aaldI C dL_act_441 (fun q4 => ?_)
      refine ok_iload C 5 dL_act_442 rfl ?_
      refine ok_aload_n C 1 dL_act_444 rfl ?_
      refine ok_getNR C fnrL_163_13 dL_act_445 (fun q5 => ?_)
      refine ok_iload C 2 dL_act_448 rfl ?_
      refine ok_aaldI C dL_act_450 (fun q6 => ?_)
      refine ok_iload C 5 dL_act_451 rfl ?_
      refine ok_iconst C (v := 1) dL_act_453 (by decide) ?_
      refine ok_iadd C dL_act_454 ?_
      refine ok_iald C dL_act_455 (fun v7 => ?_)
      refine ok_iast C dL_act_456 (fun s8 _ => ?_)
      refine ok_iincL C 5 (c := 1) (fun v9 => [(7, .int v9), (0, .ref a0), (1, .ref a1), (4, .int x4), (5, .int x5), (6, .int x6)]) dL_act_457 rfl rfl (by rw [hn]; decide) (fun _ => rfl) (fun v9 => ?_)
      refine ok_goto C 421 dL_act_460 (by decide) ?_
      refine OK.sub (lv' := [(0, .ref a0), (1, .ref a1), (4, .int x4), (5, .int x5), (6, .int x6), (7, .int v9)]) [1, 2, 3, 4, 5, 0] rfl ?_
      exact ih a0 a1 x4 x5 x6 v9 s8
set_option maxHeartbeats 4000000 in
theorem oL_act_244 {Γ : CX} (C : OKC Γ cL_act RL (some (.boolean))) (T : ∀ z ∈ (cx_c Γ).exceptionTable.toList, False) (hn : cx_nL Γ = 9) (hR : cx_fr Γ = 12 ∧ cx_lo Γ = 301) (hin : (cx_meth Γ).name = yL_act.name) {sc : Nat × (Nat → Int32)} (hsc : ax_scr (cx_ad Γ) = sc) : ∀ (a0 : Nat) (x4 : Int32) (x5 : Int32) (s0 : AS), OK Γ 244 [(0, .ref a0), (4, .int x4), (5, .int x5)] [] (fL_act_244 sc  a0 x4 x5 s0) s0 := by
  intro a0 x4 x5 s0
  unfold fL_act_244
  refine ok_aload_n C 0 dL_act_244 rfl ?_
  refine ok_bipush C (v := 12) dL_act_245 (by decide) ?_
  refine ok_iconst C (v := 2) dL_act_247 (by decide) ?_
  refine ok_newI C kw_136 dL_act_248 (fun q1 s2 => ?_)
  refine ok_dup C dL_act_250 rfl ?_
  refine ok_iconst C (v := 0) dL_act_251 (by decide) ?_
  refine ok_iload C 1 dL_act_252 rfl ?_
  refine ok_iast C dL_act_254 (fun s3 _ => ?_)
  refine ok_dup C dL_act_255 rfl ?_
  refine ok_iconst C (v := 1) dL_act_256 (by decide) ?_
  refine ok_iload C 2 dL_act_257 rfl ?_
  refine ok_iast C dL_act_259 (fun s4 _ => ?_)
  refine ok_callSW C [.ref a0, .int 12, .ref q1] (F := fL_thrown a0 12 q1) (ctL_thrown (C.2.2.2.2.2.2.2.2.1) a0 12 q1) vwL_189 rfl (by rw [hR.1, hR.2]; decide) (Nat.le_of_ble_eq_true rfl) dL_act_260 (ok_qI fun v5 s6 => ?_)
  refine ok_iconst C (v := 3) dL_act_263 (by decide) ?_
  refine ok_icmp_ne C 271 dL_act_264 (by decide) ?_ ?_
  · refine ok_iconst C (v := 0) dL_act_271 (by decide) ?_
    exact ok_zreturn C dL_act_272
  · refine ok_iconst C (v := 1) dL_act_267 (by decide) ?_
    refine ok_goto C 272 dL_act_268 (by decide) ?_
    exact ok_zreturn C dL_act_272
set_option maxHeartbeats 4000000 in
theorem oL_act_216 {Γ : CX} (C : OKC Γ cL_act RL (some (.boolean))) (T : ∀ z ∈ (cx_c Γ).exceptionTable.toList, False) (hn : cx_nL Γ = 9) (hR : cx_fr Γ = 12 ∧ cx_lo Γ = 301) (hin : (cx_meth Γ).name = yL_act.name) {sc : Nat × (Nat → Int32)} (hsc : ax_scr (cx_ad Γ) = sc) : ∀ (a0 : Nat) (a1 : Nat) (x4 : Int32) (t0 : Nat) (t1 : Int32) (t2 : Int32) (s0 : AS), OK Γ 216 [(0, .ref a0), (1, .ref a1), (4, .int x4)] [.int t2, .int t1, .ref t0] (fL_act_216 sc  a0 a1 x4 t0 t1 t2 s0) s0 := by
  intro a0 a1 x4 t0 t1 t2 s0
  unfold fL_act_216
  refine ok_callVX C T [.int t1, .int t2] (F := fun sc => fX17_next sc t0 t1 t2) hsc (ctX17_next (C.2.2.2.2.2.2.2.2.1) t0 t1 t2) vlL_205 viX17_next rfl rfl (by decide) rfl (by rw [hR.1, hR.2]; decide) (Nat.le_of_ble_eq_true rfl) dL_act_216 (ok_qI fun v1 s2 => ?_)
  refine ok_istore C (i := 5) [(5, .int v1), (0, .ref a0), (1, .ref a1), (4, .int x4)] dL_act_219 (by rw [hn]; decide) rfl ?_
  refine ok_aload_n C 2 dL_act_221 rfl ?_
  refine ok_getNR C fnrL_142_13 dL_act_222 (fun q3 => ?_)
  refine ok_iload C 3 dL_act_225 rfl ?_
  refine ok_iald C dL_act_227 (fun v4 => ?_)
  refine ok_bipush C (v := 6) dL_act_228 (by decide) ?_
  refine ok_icmp_eq C 244 dL_act_230 (by decide) ?_ ?_
  · refine OK.sub (lv' := [(0, .ref a0), (4, .int x4), (5, .int v1)]) [1, 3, 0] rfl ?_
    exact oL_act_244 C T hn hR hin hsc a0 x4 v1 s2
  · refine ok_iload C 0 dL_act_233 rfl ?_
    refine ok_aload_n C 2 dL_act_235 rfl ?_
    refine ok_iload C 3 dL_act_236 rfl ?_
    refine ok_callV C T [.int x4] (F := fX19_gap a1 x4) (ctX19_gap (C.2.2.2.2.2.2.2.2.1) a1 x4) vlL_148 viX19_gap rfl rfl (by decide) rfl (by rw [hR.1, hR.2]; decide) (Nat.le_of_ble_eq_true rfl) dL_act_238 (ok_qI fun v5 s6 => ?_)
    refine ok_icmp_le C 273 dL_act_241 (by decide) ?_ ?_
    · refine ok_aload_n C 2 dL_act_273 rfl ?_
      refine ok_getNR C fnrL_163_13 dL_act_274 (fun q7 => ?_)
      refine ok_iload C 3 dL_act_277 rfl ?_
      refine ok_aaldI C dL_act_279 (fun q8 => ?_)
      refine ok_aload_n C 2 dL_act_280 rfl ?_
      refine ok_getNR C fnrL_142_13 dL_act_281 (fun q9 => ?_)
      refine ok_iload C 3 dL_act_284 rfl ?_
      refine ok_iald C dL_act_286 (fun v10 => ?_)
      refine ok_iload C 0 dL_act_287 rfl ?_
      refine ok_iast C dL_act_289 (fun s11 _ => ?_)
      refine ok_aload_n C 2 dL_act_290 rfl ?_
      refine ok_getNR C fnrL_142_13 dL_act_291 (fun q12 => ?_)
      refine ok_iload C 3 dL_act_294 rfl ?_
      refine ok_dup2 C dL_act_296 rfl rfl ?_
      refine ok_iald C dL_act_297 (fun v13 => ?_)
      refine ok_iconst C (v := 1) dL_act_298 (by decide) ?_
      refine ok_iadd C dL_act_299 ?_
      refine ok_iast C dL_act_300 (fun s14 _ => ?_)
      refine ok_aload_n C 1 dL_act_301 rfl ?_
      refine ok_iload C 3 dL_act_302 rfl ?_
      refine ok_iload C 0 dL_act_304 rfl ?_
      refine ok_callV C T [.int x4, .int v1] (F := fX6_place a0 x4 v1) (ctX6_place (C.2.2.2.2.2.2.2.2.1) a0 x4 v1) vlL_70 viX6_place rfl rfl (by decide) rfl (by rw [hR.1, hR.2]; decide) (Nat.le_of_ble_eq_true rfl) dL_act_306 (ok_qI fun v15 s16 => ?_)
      refine ok_aload_n C 2 dL_act_309 rfl ?_
      refine ok_iload C 3 dL_act_310 rfl ?_
      refine ok_callV C T [.int x4] (F := fX19_gap a1 x4) (ctX19_gap (C.2.2.2.2.2.2.2.2.1) a1 x4) vlL_148 viX19_gap rfl rfl (by decide) rfl (by rw [hR.1, hR.2]; decide) (Nat.le_of_ble_eq_true rfl) dL_act_312 (ok_qI fun v17 s18 => ?_)
      refine ok_icmp_ne C 344 dL_act_315 (by decide) ?_ ?_
      · refine ok_iconst C (v := 0) dL_act_344 (by decide) ?_
        exact ok_zreturn C dL_act_345
      · refine ok_aload_n C 1 dL_act_318 rfl ?_
        refine ok_bipush C (v := 12) dL_act_319 (by decide) ?_
        refine ok_iconst C (v := 2) dL_act_321 (by decide) ?_
        refine ok_newI C kw_136 dL_act_322 (fun q19 s20 => ?_)
        refine ok_dup C dL_act_324 rfl ?_
        refine ok_iconst C (v := 0) dL_act_325 (by decide) ?_
        refine ok_iload C 3 dL_act_326 rfl ?_
        refine ok_iast C dL_act_328 (fun s21 _ => ?_)
        refine ok_dup C dL_act_329 rfl ?_
        refine ok_iconst C (v := 1) dL_act_330 (by decide) ?_
        refine ok_iconst C (v := 0) dL_act_331 (by decide) ?_
        refine ok_iast C dL_act_332 (fun s22 _ => ?_)
        refine ok_callSW C [.ref a0, .int 12, .ref q19] (F := fL_thrown a0 12 q19) (ctL_thrown (C.2.2.2.2.2.2.2.2.1) a0 12 q19) vwL_189 rfl (by rw [hR.1, hR.2]; decide) (Nat.le_of_ble_eq_true rfl) dL_act_333 (ok_qI fun v23 s24 => ?_)
        refine ok_iconst C (v := 3) dL_act_336 (by decide) ?_
        refine ok_icmp_ne C 344 dL_act_337 (by decide) ?_ ?_
        · refine ok_iconst C (v := 0) dL_act_344 (by decide) ?_
          exact ok_zreturn C dL_act_345
        · refine ok_iconst C (v := 1) dL_act_340 (by decide) ?_
          refine ok_goto C 345 dL_act_341 (by decide) ?_
          exact ok_zreturn C dL_act_345
    · refine OK.sub (lv' := [(0, .ref a0), (4, .int x4), (5, .int v1)]) [1, 3, 0] rfl ?_
      exact oL_act_244 C T hn hR hin hsc a0 x4 v1 s6
set_option maxHeartbeats 4000000 in
theorem oL_act_151 {Γ : CX} (C : OKC Γ cL_act RL (some (.boolean))) (T : ∀ z ∈ (cx_c Γ).exceptionTable.toList, False) (hn : cx_nL Γ = 9) (hR : cx_fr Γ = 12 ∧ cx_lo Γ = 301) (hin : (cx_meth Γ).name = yL_act.name) {sc : Nat × (Nat → Int32)} (hsc : ax_scr (cx_ad Γ) = sc) : ∀ (a0 : Nat) (a1 : Nat) (x5 : Int32) (x6 : Int32) (s0 : AS), OK Γ 151 [(0, .ref a0), (1, .ref a1), (5, .int x5), (6, .int x6)] [] (fL_act_151 sc  a0 a1 x5 x6 s0) s0 := by
  intro a0 a1 x5 x6 s0
  unfold fL_act_151
  refine ok_aload_n C 0 dL_act_151 rfl ?_
  refine ok_iload C 2 dL_act_152 rfl ?_
  refine ok_callV C T [.int x5] (F := fX6_rest a0 x5) (ctX6_rest (C.2.2.2.2.2.2.2.2.1) a0 x5) vlL_101 viX6_rest rfl rfl (by decide) rfl (by rw [hR.1, hR.2]; decide) (Nat.le_of_ble_eq_true rfl) dL_act_154 (ok_qI fun v1 s2 => ?_)
  refine ok_aload_n C 1 dL_act_157 rfl ?_
  refine ok_getNR C fnrL_203_13 dL_act_158 (fun q3 => ?_)
  refine ok_iconst C (v := 4) dL_act_161 (by decide) ?_
  refine ok_iald C dL_act_162 (fun v4 => ?_)
  refine ok_iload C 3 dL_act_163 rfl ?_
  refine ok_isub C dL_act_165 ?_
  refine ok_icmp_ne C 190 dL_act_166 (by decide) ?_ ?_
  · refine ok_iconst C (v := 0) dL_act_190 (by decide) ?_
    exact ok_zreturn C dL_act_191
  · refine ok_aload_n C 0 dL_act_169 rfl ?_
    refine ok_bipush C (v := 22) dL_act_170 (by decide) ?_
    refine ok_iconst C (v := 1) dL_act_172 (by decide) ?_
    refine ok_newI C kw_136 dL_act_173 (fun q5 s6 => ?_)
    refine ok_dup C dL_act_175 rfl ?_
    refine ok_iconst C (v := 0) dL_act_176 (by decide) ?_
    refine ok_iconst C (v := 0) dL_act_177 (by decide) ?_
    refine ok_iast C dL_act_178 (fun s7 _ => ?_)
    refine ok_callSW C [.ref a0, .int 22, .ref q5] (F := fL_thrown a0 22 q5) (ctL_thrown (C.2.2.2.2.2.2.2.2.1) a0 22 q5) vwL_189 rfl (by rw [hR.1, hR.2]; decide) (Nat.le_of_ble_eq_true rfl) dL_act_179 (ok_qI fun v8 s9 => ?_)
    refine ok_iconst C (v := 3) dL_act_182 (by decide) ?_
    refine ok_icmp_ne C 190 dL_act_183 (by decide) ?_ ?_
    · refine ok_iconst C (v := 0) dL_act_190 (by decide) ?_
      exact ok_zreturn C dL_act_191
    · refine ok_iconst C (v := 1) dL_act_186 (by decide) ?_
      refine ok_goto C 191 dL_act_187 (by decide) ?_
      exact ok_zreturn C dL_act_191
set_option maxHeartbeats 4000000 in
theorem oL_act_132 {Γ : CX} (C : OKC Γ cL_act RL (some (.boolean))) (T : ∀ z ∈ (cx_c Γ).exceptionTable.toList, False) (hn : cx_nL Γ = 9) (hR : cx_fr Γ = 12 ∧ cx_lo Γ = 301) (hin : (cx_meth Γ).name = yL_act.name) {sc : Nat × (Nat → Int32)} (hsc : ax_scr (cx_ad Γ) = sc) : ∀ (n : Nat) (a0 : Nat) (a1 : Nat) (x5 : Int32) (x6 : Int32) (x7 : Int32) (s0 : AS), OK Γ 132 [(0, .ref a0), (1, .ref a1), (5, .int x5), (6, .int x6), (7, .int x7)] [] (fL_act_132 sc n a0 a1 x5 x6 x7 s0) s0 := by
  intro n
  induction n with
  | zero => intro _ _ _ _ _ s0; exact OK.none
  | succ n ih =>
    intro a0 a1 x5 x6 x7 s0
    rw [fL_act_132]
    refine ok_iload C 4 dL_act_132 rfl ?_
    refine ok_iload C 2 dL_act_134 rfl ?_
    refine ok_icmp_ge C 151 dL_act_136 (by decide) ?_ ?_
    · refine OK.sub (lv' := [(0, .ref a0), (1, .ref a1), (5, .int x5), (6, .int x6)]) [0, 1, 2, 3] rfl ?_
      exact oL_act_151 C T hn hR hin hsc a0 a1 x5 x6 s0
    · refine ok_aload_n C 1 dL_act_139 rfl ?_
      refine ok_callV C T [] (F := fX19_day a1) (ctX19_day (C.2.2.2.2.2.2.2.2.1) a1) vlL_212 viX19_day rfl rfl (by decide) rfl (by rw [hR.1, hR.2]; decide) (Nat.le_of_ble_eq_true rfl) dL_act_140 (ok_qI fun v1 s2 => ?_)
      refine ok_istore C (i := 8) [(8, .int v1), (0, .ref a0), (1, .ref a1), (5, .int x5), (6, .int x6), (7, .int x7)] dL_act_143 (by rw [hn]; decide) rfl ?_
      refine ok_iincL C 5 (c := 1) (fun v3 => [(7, .int v3), (8, .int v1), (0, .ref a0), (1, .ref a1), (5, .int x5), (6, .int x6)]) dL_act_145 rfl rfl (by rw [hn]; decide) (fun _ => rfl) (fun v3 => ?_)
      refine ok_goto C 132 dL_act_148 (by decide) ?_
      refine OK.sub (lv' := [(0, .ref a0), (1, .ref a1), (5, .int x5), (6, .int x6), (7, .int v3)]) [2, 3, 4, 5, 0] rfl ?_
      exact ih a0 a1 x5 x6 v3 s2
set_option maxHeartbeats 4000000 in
theorem oL_act_66 {Γ : CX} (C : OKC Γ cL_act RL (some (.boolean))) (T : ∀ z ∈ (cx_c Γ).exceptionTable.toList, False) (hn : cx_nL Γ = 9) (hR : cx_fr Γ = 12 ∧ cx_lo Γ = 301) (hin : (cx_meth Γ).name = yL_act.name) {sc : Nat × (Nat → Int32)} (hsc : ax_scr (cx_ad Γ) = sc) : ∀ (a0 : Nat) (a1 : Nat) (x5 : Int32) (x6 : Int32) (s0 : AS), OK Γ 66 [(0, .ref a0), (1, .ref a1), (5, .int x5), (6, .int x6)] [] (fL_act_66 sc  a0 a1 x5 x6 s0) s0 := by
  intro a0 a1 x5 x6 s0
  unfold fL_act_66
  refine ok_aload_n C 0 dL_act_66 rfl ?_
  refine ok_iload C 2 dL_act_67 rfl ?_
  refine ok_callV C T [.int x5] (F := fX6_print a0 x5) (ctX6_print (C.2.2.2.2.2.2.2.2.1) a0 x5) vlL_98 viX6_print rfl rfl (by decide) rfl (by rw [hR.1, hR.2]; decide) (Nat.le_of_ble_eq_true rfl) dL_act_69 (ok_qI fun v1 s2 => ?_)
  refine ok_aload_n C 1 dL_act_72 rfl ?_
  refine ok_getNR C fnrL_203_13 dL_act_73 (fun q3 => ?_)
  refine ok_iconst C (v := 1) dL_act_76 (by decide) ?_
  refine ok_iald C dL_act_77 (fun v4 => ?_)
  refine ok_iload C 3 dL_act_78 rfl ?_
  refine ok_isub C dL_act_80 ?_
  refine ok_icmp_ne C 106 dL_act_81 (by decide) ?_ ?_
  · refine ok_iconst C (v := 0) dL_act_106 (by decide) ?_
    exact ok_zreturn C dL_act_107
  · refine ok_aload_n C 0 dL_act_84 rfl ?_
    refine ok_bipush C (v := 21) dL_act_85 (by decide) ?_
    refine ok_iconst C (v := 1) dL_act_87 (by decide) ?_
    refine ok_newI C kw_136 dL_act_88 (fun q5 s6 => ?_)
    refine ok_dup C dL_act_90 rfl ?_
    refine ok_iconst C (v := 0) dL_act_91 (by decide) ?_
    refine ok_bipush C (v := 101) dL_act_92 (by decide) ?_
    refine ok_iast C dL_act_94 (fun s7 _ => ?_)
    refine ok_callSW C [.ref a0, .int 21, .ref q5] (F := fL_thrown a0 21 q5) (ctL_thrown (C.2.2.2.2.2.2.2.2.1) a0 21 q5) vwL_189 rfl (by rw [hR.1, hR.2]; decide) (Nat.le_of_ble_eq_true rfl) dL_act_95 (ok_qI fun v8 s9 => ?_)
    refine ok_iconst C (v := 3) dL_act_98 (by decide) ?_
    refine ok_icmp_ne C 106 dL_act_99 (by decide) ?_ ?_
    · refine ok_iconst C (v := 0) dL_act_106 (by decide) ?_
      exact ok_zreturn C dL_act_107
    · refine ok_iconst C (v := 1) dL_act_102 (by decide) ?_
      refine ok_goto C 107 dL_act_103 (by decide) ?_
      exact ok_zreturn C dL_act_107
set_option maxHeartbeats 4000000 in
theorem oL_act_47 {Γ : CX} (C : OKC Γ cL_act RL (some (.boolean))) (T : ∀ z ∈ (cx_c Γ).exceptionTable.toList, False) (hn : cx_nL Γ = 9) (hR : cx_fr Γ = 12 ∧ cx_lo Γ = 301) (hin : (cx_meth Γ).name = yL_act.name) {sc : Nat × (Nat → Int32)} (hsc : ax_scr (cx_ad Γ) = sc) : ∀ (n : Nat) (a0 : Nat) (a1 : Nat) (x5 : Int32) (x6 : Int32) (x7 : Int32) (s0 : AS), OK Γ 47 [(0, .ref a0), (1, .ref a1), (5, .int x5), (6, .int x6), (7, .int x7)] [] (fL_act_47 sc n a0 a1 x5 x6 x7 s0) s0 := by
  intro n
  induction n with
  | zero => intro _ _ _ _ _ s0; exact OK.none
  | succ n ih =>
    intro a0 a1 x5 x6 x7 s0
    rw [fL_act_47]
    refine ok_iload C 4 dL_act_47 rfl ?_
    refine ok_iload C 2 dL_act_49 rfl ?_
    refine ok_icmp_ge C 66 dL_act_51 (by decide) ?_ ?_
    · refine OK.sub (lv' := [(0, .ref a0), (1, .ref a1), (5, .int x5), (6, .int x6)]) [0, 1, 2, 3] rfl ?_
      exact oL_act_66 C T hn hR hin hsc a0 a1 x5 x6 s0
    · refine ok_aload_n C 1 dL_act_54 rfl ?_
      refine ok_callV C T [] (F := fX19_print a1) (ctX19_print (C.2.2.2.2.2.2.2.2.1) a1) vlL_210 viX19_print rfl rfl (by decide) rfl (by rw [hR.1, hR.2]; decide) (Nat.le_of_ble_eq_true rfl) dL_act_55 (ok_qI fun v1 s2 => ?_)
      refine ok_istore C (i := 8) [(8, .int v1), (0, .ref a0), (1, .ref a1), (5, .int x5), (6, .int x6), (7, .int x7)] dL_act_58 (by rw [hn]; decide) rfl ?_
      refine ok_iincL C 5 (c := 1) (fun v3 => [(7, .int v3), (8, .int v1), (0, .ref a0), (1, .ref a1), (5, .int x5), (6, .int x6)]) dL_act_60 rfl rfl (by rw [hn]; decide) (fun _ => rfl) (fun v3 => ?_)
      refine ok_goto C 47 dL_act_63 (by decide) ?_
      refine OK.sub (lv' := [(0, .ref a0), (1, .ref a1), (5, .int x5), (6, .int x6), (7, .int v3)]) [2, 3, 4, 5, 0] rfl ?_
      exact ih a0 a1 x5 x6 v3 s2
set_option maxHeartbeats 4000000 in
theorem oL_act {Γ : CX} (C : OKC Γ cL_act RL (some (.boolean))) (T : ∀ z ∈ (cx_c Γ).exceptionTable.toList, False) (hn : cx_nL Γ = 9) (hR : cx_fr Γ = 12 ∧ cx_lo Γ = 301) (hin : (cx_meth Γ).name = yL_act.name) {sc : Nat × (Nat → Int32)} (hsc : ax_scr (cx_ad Γ) = sc) : ∀ (a0 : Nat) (a1 : Nat) (a2 : Nat) (s0 : AS), OK Γ 0 [(0, .ref a0), (1, .ref a1), (2, .ref a2)] [] (fL_act sc a0 a1 a2 s0) s0 := by
  intro a0 a1 a2 s0
  unfold fL_act
  refine ok_aload_n C 2 dL_act_0 rfl ?_
  refine ok_iconst C (v := 0) dL_act_1 (by decide) ?_
  refine ok_bipush C (v := 16) dL_act_2 (by decide) ?_
  refine ok_callVX C T [.int 0, .int 16] (F := fun sc => fX17_next sc a2 0 16) hsc (ctX17_next (C.2.2.2.2.2.2.2.2.1) a2 0 16) vlL_205 viX17_next rfl rfl (by decide) rfl (by rw [hR.1, hR.2]; decide) (Nat.le_of_ble_eq_true rfl) dL_act_4 (ok_qI fun v1 s2 => ?_)
  refine ok_istore_n C (i := 3) [(3, .int v1), (0, .ref a0), (1, .ref a1), (2, .ref a2)] dL_act_7 rfl (by rw [hn]; decide) rfl ?_
  refine ok_aload_n C 3 dL_act_8 rfl ?_
  refine ok_iconst C (v := 0) dL_act_9 (by decide) ?_
  refine ok_aload_n C 2 dL_act_10 rfl ?_
  refine ok_getNR C fnrL_134_13 dL_act_11 (fun q3 => ?_)
  refine ok_iconst C (v := 1) dL_act_14 (by decide) ?_
  refine ok_iald C dL_act_15 (fun v4 => ?_)
  refine ok_iconst C (v := 1) dL_act_16 (by decide) ?_
  refine ok_isub C dL_act_17 ?_
  refine ok_callVX C T [.int 0, .int (v4 - 1)] (F := fun sc => fX17_next sc a2 0 (v4 - 1)) hsc (ctX17_next (C.2.2.2.2.2.2.2.2.1) a2 0 (v4 - 1)) vlL_205 viX17_next rfl rfl (by decide) rfl (by rw [hR.1, hR.2]; decide) (Nat.le_of_ble_eq_true rfl) dL_act_18 (ok_qI fun v5 s6 => ?_)
  refine ok_istore C (i := 4) [(4, .int v5), (3, .int v1), (0, .ref a0), (1, .ref a1), (2, .ref a2)] dL_act_21 (by rw [hn]; decide) rfl ?_
  refine ok_iload_n C 1 dL_act_23 rfl ?_
  refine ok_iconst C (v := 2) dL_act_24 (by decide) ?_
  refine ok_icmp_ge C 108 dL_act_25 (by decide) ?_ ?_
  · refine ok_iload_n C 1 dL_act_108 rfl ?_
    refine ok_iconst C (v := 2) dL_act_109 (by decide) ?_
    refine ok_icmp_ne C 192 dL_act_110 (by decide) ?_ ?_
    · refine ok_iload_n C 1 dL_act_192 rfl ?_
      refine ok_iconst C (v := 5) dL_act_193 (by decide) ?_
      refine ok_icmp_ge C 346 dL_act_194 (by decide) ?_ ?_
      · refine ok_iload_n C 1 dL_act_346 rfl ?_
        refine ok_iconst C (v := 5) dL_act_347 (by decide) ?_
        refine ok_icmp_ne C 493 dL_act_348 (by decide) ?_ ?_
        · refine ok_iload_n C 1 dL_act_493 rfl ?_
          refine ok_bipush C (v := 8) dL_act_494 (by decide) ?_
          refine ok_icmp_ge C 633 dL_act_496 (by decide) ?_ ?_
          · refine ok_iload_n C 1 dL_act_633 rfl ?_
            refine ok_bipush C (v := 8) dL_act_634 (by decide) ?_
            refine ok_icmp_ne C 792 dL_act_636 (by decide) ?_ ?_
            · refine ok_iload_n C 1 dL_act_792 rfl ?_
              refine ok_bipush C (v := 9) dL_act_793 (by decide) ?_
              refine ok_icmp_ne C 965 dL_act_795 (by decide) ?_ ?_
              · refine ok_iload_n C 1 dL_act_965 rfl ?_
                refine ok_bipush C (v := 10) dL_act_966 (by decide) ?_
                refine ok_icmp_ne C 1110 dL_act_968 (by decide) ?_ ?_
                · refine ok_iload_n C 1 dL_act_1110 rfl ?_
                  refine ok_bipush C (v := 13) dL_act_1111 (by decide) ?_
                  refine ok_icmp_ge C 1185 dL_act_1113 (by decide) ?_ ?_
                  · refine ok_iload_n C 1 dL_act_1185 rfl ?_
                    refine ok_bipush C (v := 13) dL_act_1186 (by decide) ?_
                    refine ok_icmp_ne C 1212 dL_act_1188 (by decide) ?_ ?_
                    · refine ok_iload_n C 1 dL_act_1212 rfl ?_
                      refine ok_bipush C (v := 14) dL_act_1213 (by decide) ?_
                      refine ok_icmp_ne C 1310 dL_act_1215 (by decide) ?_ ?_
                      · refine ok_iload_n C 1 dL_act_1310 rfl ?_
                        refine ok_bipush C (v := 15) dL_act_1311 (by decide) ?_
                        refine ok_icmp_ne C 1444 dL_act_1313 (by decide) ?_ ?_
                        · refine ok_aload_n C 3 dL_act_1444 rfl ?_
                          refine ok_getNI C fnrL_170_13 dL_act_1445 (fun v7 => ?_)
                          refine ok_if_ne C 1478 dL_act_1448 (by decide) ?_ ?_
                          · refine ok_aload_n C 4 dL_act_1478 rfl ?_
                            refine ok_iconst C (v := 0) dL_act_1479 (by decide) ?_
                            refine ok_aload_n C 3 dL_act_1480 rfl ?_
                            refine ok_getNI C fnrL_170_13 dL_act_1481 (fun v8 => ?_)
                            refine ok_iconst C (v := 1) dL_act_1484 (by decide) ?_
                            refine ok_isub C dL_act_1485 ?_
                            refine ok_callVX C T [.int 0, .int (v8 - 1)] (F := fun sc => fX17_next sc a2 0 (v8 - 1)) hsc (ctX17_next (C.2.2.2.2.2.2.2.2.1) a2 0 (v8 - 1)) vlL_205 viX17_next rfl rfl (by decide) rfl (by rw [hR.1, hR.2]; decide) (Nat.le_of_ble_eq_true rfl) dL_act_1486 (ok_qI fun v9 s10 => ?_)
                            refine ok_istore C (i := 5) [(5, .int v9), (4, .int v5), (3, .int v1), (0, .ref a0), (1, .ref a1), (2, .ref a2)] dL_act_1489 (by rw [hn]; decide) rfl ?_
                            refine ok_aload_n C 5 dL_act_1491 rfl ?_
                            refine ok_iconst C (v := 1) dL_act_1492 (by decide) ?_
                            refine ok_iconst C (v := 3) dL_act_1493 (by decide) ?_
                            refine ok_callVX C T [.int 1, .int 3] (F := fun sc => fX17_next sc a2 1 3) hsc (ctX17_next (C.2.2.2.2.2.2.2.2.1) a2 1 3) vlL_205 viX17_next rfl rfl (by decide) rfl (by rw [hR.1, hR.2]; decide) (Nat.le_of_ble_eq_true rfl) dL_act_1494 (ok_qI fun v11 s12 => ?_)
                            refine ok_istore C (i := 6) [(6, .int v11), (5, .int v9), (4, .int v5), (3, .int v1), (0, .ref a0), (1, .ref a1), (2, .ref a2)] dL_act_1497 (by rw [hn]; decide) rfl ?_
                            refine ok_aload_n C 5 dL_act_1499 rfl ?_
                            refine ok_getNR C fnrL_178_13 dL_act_1500 (fun q13 => ?_)
                            refine ok_iload C 1 dL_act_1503 rfl ?_
                            refine ok_iald C dL_act_1505 (fun v14 => ?_)
                            refine ok_iload C 0 dL_act_1506 rfl ?_
                            refine ok_iadd C dL_act_1508 ?_
                            refine ok_bipush C (v := 14) dL_act_1509 (by decide) ?_
                            refine ok_icmp_le C 1543 dL_act_1511 (by decide) ?_ ?_
                            · refine ok_aload_n C 5 dL_act_1543 rfl ?_
                              refine ok_getNR C fnrL_178_13 dL_act_1544 (fun q15 => ?_)
                              refine ok_iload C 1 dL_act_1547 rfl ?_
                              refine ok_dup2 C dL_act_1549 rfl rfl ?_
                              refine ok_iald C dL_act_1550 (fun v16 => ?_)
                              refine ok_iload C 0 dL_act_1551 rfl ?_
                              refine ok_iadd C dL_act_1553 ?_
                              refine ok_iast C dL_act_1554 (fun s17 _ => ?_)
                              refine ok_aload_n C 4 dL_act_1555 rfl ?_
                              refine ok_iload C 1 dL_act_1556 rfl ?_
                              refine ok_iload C 0 dL_act_1558 rfl ?_
                              refine ok_callV C T [.int v9, .int v11] (F := fX6_buy a0 v9 v11) (ctX6_buy (C.2.2.2.2.2.2.2.2.1) a0 v9 v11) vlL_104 viX6_buy rfl rfl (by decide) rfl (by rw [hR.1, hR.2]; decide) (Nat.le_of_ble_eq_true rfl) dL_act_1560 (ok_qI fun v18 s19 => ?_)
                              refine ok_aload_n C 5 dL_act_1563 rfl ?_
                              refine ok_getNR C fnrL_178_13 dL_act_1564 (fun q20 => ?_)
                              refine ok_iload C 1 dL_act_1567 rfl ?_
                              refine ok_iald C dL_act_1569 (fun v21 => ?_)
                              refine ok_icmp_ne C 1608 dL_act_1570 (by decide) ?_ ?_
                              · refine ok_iconst C (v := 0) dL_act_1608 (by decide) ?_
                                exact ok_zreturn C dL_act_1609
                              · refine ok_aload_n C 4 dL_act_1573 rfl ?_
                                refine ok_bipush C (v := 23) dL_act_1574 (by decide) ?_
                                refine ok_iconst C (v := 2) dL_act_1576 (by decide) ?_
                                refine ok_newI C kw_136 dL_act_1577 (fun q22 s23 => ?_)
                                refine ok_dup C dL_act_1579 rfl ?_
                                refine ok_iconst C (v := 0) dL_act_1580 (by decide) ?_
                                refine ok_iload C 1 dL_act_1581 rfl ?_
                                refine ok_iast C dL_act_1583 (fun s24 _ => ?_)
                                refine ok_dup C dL_act_1584 rfl ?_
                                refine ok_iconst C (v := 1) dL_act_1585 (by decide) ?_
                                refine ok_bipush C (v := 100) dL_act_1586 (by decide) ?_
                                refine ok_aload_n C 5 dL_act_1588 rfl ?_
                                refine ok_getNR C fnrL_178_13 dL_act_1589 (fun q25 => ?_)
                                refine ok_iload C 1 dL_act_1592 rfl ?_
                                refine ok_iald C dL_act_1594 (fun v26 => ?_)
                                refine ok_isub C dL_act_1595 ?_
                                refine ok_iast C dL_act_1596 (fun s27 _ => ?_)
                                refine ok_callSW C [.ref a0, .int 23, .ref q22] (F := fL_thrown a0 23 q22) (ctL_thrown (C.2.2.2.2.2.2.2.2.1) a0 23 q22) vwL_189 rfl (by rw [hR.1, hR.2]; decide) (Nat.le_of_ble_eq_true rfl) dL_act_1597 (ok_qI fun v28 s29 => ?_)
                                refine ok_iconst C (v := 3) dL_act_1600 (by decide) ?_
                                refine ok_icmp_ne C 1608 dL_act_1601 (by decide) ?_ ?_
                                · refine ok_iconst C (v := 0) dL_act_1608 (by decide) ?_
                                  exact ok_zreturn C dL_act_1609
                                · refine ok_iconst C (v := 1) dL_act_1604 (by decide) ?_
                                  refine ok_goto C 1609 dL_act_1605 (by decide) ?_
                                  exact ok_zreturn C dL_act_1609
                            · refine ok_aload_n C 4 dL_act_1514 rfl ?_
                              refine ok_bipush C (v := 23) dL_act_1515 (by decide) ?_
                              refine ok_iconst C (v := 2) dL_act_1517 (by decide) ?_
                              refine ok_newI C kw_136 dL_act_1518 (fun q30 s31 => ?_)
                              refine ok_dup C dL_act_1520 rfl ?_
                              refine ok_iconst C (v := 0) dL_act_1521 (by decide) ?_
                              refine ok_iload C 1 dL_act_1522 rfl ?_
                              refine ok_iast C dL_act_1524 (fun s32 _ => ?_)
                              refine ok_dup C dL_act_1525 rfl ?_
                              refine ok_iconst C (v := 1) dL_act_1526 (by decide) ?_
                              refine ok_bipush C (v := 100) dL_act_1527 (by decide) ?_
                              refine ok_iast C dL_act_1529 (fun s33 _ => ?_)
                              refine ok_callSW C [.ref a0, .int 23, .ref q30] (F := fL_thrown a0 23 q30) (ctL_thrown (C.2.2.2.2.2.2.2.2.1) a0 23 q30) vwL_189 rfl (by rw [hR.1, hR.2]; decide) (Nat.le_of_ble_eq_true rfl) dL_act_1530 (ok_qI fun v34 s35 => ?_)
                              refine ok_iconst C (v := 3) dL_act_1533 (by decide) ?_
                              refine ok_icmp_ne C 1541 dL_act_1534 (by decide) ?_ ?_
                              · refine ok_iconst C (v := 0) dL_act_1541 (by decide) ?_
                                exact ok_zreturn C dL_act_1542
                              · refine ok_iconst C (v := 1) dL_act_1537 (by decide) ?_
                                refine ok_goto C 1542 dL_act_1538 (by decide) ?_
                                exact ok_zreturn C dL_act_1542
                          · refine ok_aload_n C 2 dL_act_1451 rfl ?_
                            refine ok_bipush C (v := 23) dL_act_1452 (by decide) ?_
                            refine ok_iconst C (v := 2) dL_act_1454 (by decide) ?_
                            refine ok_newI C kw_136 dL_act_1455 (fun q36 s37 => ?_)
                            refine ok_dup C dL_act_1457 rfl ?_
                            refine ok_iconst C (v := 0) dL_act_1458 (by decide) ?_
                            refine ok_iconst C (v := 0) dL_act_1459 (by decide) ?_
                            refine ok_iast C dL_act_1460 (fun s38 _ => ?_)
                            refine ok_dup C dL_act_1461 rfl ?_
                            refine ok_iconst C (v := 1) dL_act_1462 (by decide) ?_
                            refine ok_iconst C (v := 1) dL_act_1463 (by decide) ?_
                            refine ok_iast C dL_act_1464 (fun s39 _ => ?_)
                            refine ok_callSW C [.ref a0, .int 23, .ref q36] (F := fL_thrown a0 23 q36) (ctL_thrown (C.2.2.2.2.2.2.2.2.1) a0 23 q36) vwL_189 rfl (by rw [hR.1, hR.2]; decide) (Nat.le_of_ble_eq_true rfl) dL_act_1465 (ok_qI fun v40 s41 => ?_)
                            refine ok_iconst C (v := 2) dL_act_1468 (by decide) ?_
                            refine ok_icmp_ne C 1476 dL_act_1469 (by decide) ?_ ?_
                            · refine ok_iconst C (v := 0) dL_act_1476 (by decide) ?_
                              exact ok_zreturn C dL_act_1477
                            · refine ok_iconst C (v := 1) dL_act_1472 (by decide) ?_
                              refine ok_goto C 1477 dL_act_1473 (by decide) ?_
                              exact ok_zreturn C dL_act_1477
                        · refine ok_aload_n C 3 dL_act_1316 rfl ?_
                          refine ok_getNR C fnrL_140_13 dL_act_1317 (fun q42 => ?_)
                          refine ok_iload C 0 dL_act_1320 rfl ?_
                          refine ok_iald C dL_act_1322 (fun v43 => ?_)
                          refine ok_if_ge C 1350 dL_act_1323 (by decide) ?_ ?_
                          · refine OK.sub (lv' := [(0, .ref a0), (1, .ref a1), (4, .int v5)]) [2, 3, 0] rfl ?_
                            exact oL_act_1350 C T hn hR hin hsc FU a0 a1 v5 s6
                          · refine ok_aload_n C 2 dL_act_1326 rfl ?_
                            refine ok_bipush C (v := 20) dL_act_1327 (by decide) ?_
                            refine ok_iconst C (v := 1) dL_act_1329 (by decide) ?_
                            refine ok_newI C kw_136 dL_act_1330 (fun q44 s45 => ?_)
                            refine ok_dup C dL_act_1332 rfl ?_
                            refine ok_iconst C (v := 0) dL_act_1333 (by decide) ?_
                            refine ok_iload C 0 dL_act_1334 rfl ?_
                            refine ok_iast C dL_act_1336 (fun s46 _ => ?_)
                            refine ok_callSW C [.ref a0, .int 20, .ref q44] (F := fL_thrown a0 20 q44) (ctL_thrown (C.2.2.2.2.2.2.2.2.1) a0 20 q44) vwL_189 rfl (by rw [hR.1, hR.2]; decide) (Nat.le_of_ble_eq_true rfl) dL_act_1337 (ok_qI fun v47 s48 => ?_)
                            refine ok_iconst C (v := 3) dL_act_1340 (by decide) ?_
                            refine ok_icmp_ne C 1348 dL_act_1341 (by decide) ?_ ?_
                            · refine ok_iconst C (v := 0) dL_act_1348 (by decide) ?_
                              exact ok_zreturn C dL_act_1349
                            · refine ok_iconst C (v := 1) dL_act_1344 (by decide) ?_
                              refine ok_goto C 1349 dL_act_1345 (by decide) ?_
                              exact ok_zreturn C dL_act_1349
                      · refine ok_new C (C0 := RX19) ax_DF13 ⟨_, rfl⟩ kw_1028 dL_act_1218 (fun q49 s50 => ?_)
                        refine ok_dup C dL_act_1221 rfl ?_
                        refine ok_aload_n C 3 dL_act_1222 rfl ?_
                        refine ok_callI C T [.ref a1] (F := fX19_init_ q49 a1) (ctX19_init_ (C.2.2.2.2.2.2.2.2.1) q49 a1) vlL_228 kw_1030 rfl rfl (by rw [hR.1, hR.2]; decide) (Nat.le_of_ble_eq_true rfl) dL_act_1223 (ok_qV fun s51 => ?_)
                        refine ok_astore C (i := 5) [(5, .ref q49), (4, .int v5), (3, .int v1), (0, .ref a0), (1, .ref a1), (2, .ref a2)] dL_act_1226 (by rw [hn]; decide) rfl ?_
                        refine ok_aload C 0 dL_act_1228 rfl ?_
                        refine ok_iload C 1 dL_act_1230 rfl ?_
                        refine ok_callV C T [.int v5] (F := fX19_unlock q49 v5) (ctX19_unlock (C.2.2.2.2.2.2.2.2.1) q49 v5) vlL_227 viX19_unlock rfl rfl (by decide) rfl (by rw [hR.1, hR.2]; decide) (Nat.le_of_ble_eq_true rfl) dL_act_1232 (ok_qI fun v52 s53 => ?_)
                        refine ok_istore C (i := 6) [(6, .int v52), (5, .ref q49), (4, .int v5), (3, .int v1), (0, .ref a0), (1, .ref a1), (2, .ref a2)] dL_act_1235 (by rw [hn]; decide) rfl ?_
                        refine ok_aload C 1 dL_act_1237 rfl ?_
                        refine ok_iload C 2 dL_act_1239 rfl ?_
                        refine ok_callV C T [.int v5] (F := fX19_lock q49 v5) (ctX19_lock (C.2.2.2.2.2.2.2.2.1) q49 v5) vlL_222 viX19_lock rfl rfl (by decide) rfl (by rw [hR.1, hR.2]; decide) (Nat.le_of_ble_eq_true rfl) dL_act_1241 (ok_qI fun v54 s55 => ?_)
                        refine ok_if_ne C 1271 dL_act_1244 (by decide) ?_ ?_
                        · refine ok_aload_n C 5 dL_act_1271 rfl ?_
                          refine ok_iload C 2 dL_act_1272 rfl ?_
                          refine ok_callV C T [.int v5] (F := fX19_unlock a1 v5) (ctX19_unlock (C.2.2.2.2.2.2.2.2.1) a1 v5) vlL_227 viX19_unlock rfl rfl (by decide) rfl (by rw [hR.1, hR.2]; decide) (Nat.le_of_ble_eq_true rfl) dL_act_1274 (ok_qI fun v56 s57 => ?_)
                          refine ok_istore C (i := 6) [(6, .int v56), (5, .ref q49), (4, .int v5), (3, .int v1), (0, .ref a0), (1, .ref a1), (2, .ref a2)] dL_act_1277 (by rw [hn]; decide) rfl ?_
                          refine ok_aload_n C 5 dL_act_1279 rfl ?_
                          refine ok_iload C 2 dL_act_1280 rfl ?_
                          refine ok_callV C T [.int v5] (F := fX19_lock a1 v5) (ctX19_lock (C.2.2.2.2.2.2.2.2.1) a1 v5) vlL_222 viX19_lock rfl rfl (by decide) rfl (by rw [hR.1, hR.2]; decide) (Nat.le_of_ble_eq_true rfl) dL_act_1282 (ok_qI fun v58 s59 => ?_)
                          refine ok_if_eq C 1308 dL_act_1285 (by decide) ?_ ?_
                          · refine ok_iconst C (v := 0) dL_act_1308 (by decide) ?_
                            exact ok_zreturn C dL_act_1309
                          · refine ok_aload_n C 4 dL_act_1288 rfl ?_
                            refine ok_iload C 2 dL_act_1289 rfl ?_
                            refine ok_callV C T [.int v5] (F := fX6_relock a0 v5) (ctX6_relock (C.2.2.2.2.2.2.2.2.1) a0 v5) vlL_92 viX6_relock rfl rfl (by decide) rfl (by rw [hR.1, hR.2]; decide) (Nat.le_of_ble_eq_true rfl) dL_act_1291 (ok_qI fun v60 s61 => ?_)
                            refine ok_aload_n C 5 dL_act_1294 rfl ?_
                            refine ok_getNR C fnrL_145_13 dL_act_1295 (fun q62 => ?_)
                            refine ok_iload C 2 dL_act_1298 rfl ?_
                            refine ok_iald C dL_act_1300 (fun v63 => ?_)
                            refine ok_icmp_ne C 1308 dL_act_1301 (by decide) ?_ ?_
                            · refine ok_iconst C (v := 0) dL_act_1308 (by decide) ?_
                              exact ok_zreturn C dL_act_1309
                            · refine ok_iconst C (v := 1) dL_act_1304 (by decide) ?_
                              refine ok_goto C 1309 dL_act_1305 (by decide) ?_
                              exact ok_zreturn C dL_act_1309
                        · refine ok_aload_n C 4 dL_act_1247 rfl ?_
                          refine ok_bipush C (v := 19) dL_act_1248 (by decide) ?_
                          refine ok_iconst C (v := 1) dL_act_1250 (by decide) ?_
                          refine ok_newI C kw_136 dL_act_1251 (fun q64 s65 => ?_)
                          refine ok_dup C dL_act_1253 rfl ?_
                          refine ok_iconst C (v := 0) dL_act_1254 (by decide) ?_
                          refine ok_iload C 2 dL_act_1255 rfl ?_
                          refine ok_iast C dL_act_1257 (fun s66 _ => ?_)
                          refine ok_callSW C [.ref a0, .int 19, .ref q64] (F := fL_thrown a0 19 q64) (ctL_thrown (C.2.2.2.2.2.2.2.2.1) a0 19 q64) vwL_189 rfl (by rw [hR.1, hR.2]; decide) (Nat.le_of_ble_eq_true rfl) dL_act_1258 (ok_qI fun v67 s68 => ?_)
                          refine ok_iconst C (v := 3) dL_act_1261 (by decide) ?_
                          refine ok_icmp_ne C 1269 dL_act_1262 (by decide) ?_ ?_
                          · refine ok_iconst C (v := 0) dL_act_1269 (by decide) ?_
                            exact ok_zreturn C dL_act_1270
                          · refine ok_iconst C (v := 1) dL_act_1265 (by decide) ?_
                            refine ok_goto C 1270 dL_act_1266 (by decide) ?_
                            exact ok_zreturn C dL_act_1270
                    · refine ok_aload_n C 2 dL_act_1191 rfl ?_
                      refine ok_iload C 0 dL_act_1192 rfl ?_
                      refine ok_callV C T [.int v5] (F := fX6_unlock a0 v5) (ctX6_unlock (C.2.2.2.2.2.2.2.2.1) a0 v5) vlL_224 viX6_unlock rfl rfl (by decide) rfl (by rw [hR.1, hR.2]; decide) (Nat.le_of_ble_eq_true rfl) dL_act_1194 (ok_qI fun v69 s70 => ?_)
                      refine ok_aload_n C 3 dL_act_1197 rfl ?_
                      refine ok_iload C 0 dL_act_1198 rfl ?_
                      refine ok_callV C T [.int v5] (F := fX19_unlock a1 v5) (ctX19_unlock (C.2.2.2.2.2.2.2.2.1) a1 v5) vlL_227 viX19_unlock rfl rfl (by decide) rfl (by rw [hR.1, hR.2]; decide) (Nat.le_of_ble_eq_true rfl) dL_act_1200 (ok_qI fun v71 s72 => ?_)
                      refine ok_icmp_ne C 1210 dL_act_1203 (by decide) ?_ ?_
                      · refine ok_iconst C (v := 0) dL_act_1210 (by decide) ?_
                        exact ok_zreturn C dL_act_1211
                      · refine ok_iconst C (v := 1) dL_act_1206 (by decide) ?_
                        refine ok_goto C 1211 dL_act_1207 (by decide) ?_
                        exact ok_zreturn C dL_act_1211
                  · refine ok_aload_n C 3 dL_act_1116 rfl ?_
                    refine ok_getNR C fnrL_145_13 dL_act_1117 (fun q73 => ?_)
                    refine ok_iload C 0 dL_act_1120 rfl ?_
                    refine ok_iald C dL_act_1122 (fun v74 => ?_)
                    refine ok_istore C (i := 5) [(5, .int v74), (4, .int v5), (3, .int v1), (0, .ref a0), (1, .ref a1), (2, .ref a2)] dL_act_1123 (by rw [hn]; decide) rfl ?_
                    refine ok_aload_n C 4 dL_act_1125 rfl ?_
                    refine ok_iload C 1 dL_act_1126 rfl ?_
                    refine ok_callV C T [.int v5] (F := fX19_lock a1 v5) (ctX19_lock (C.2.2.2.2.2.2.2.2.1) a1 v5) vlL_222 viX19_lock rfl rfl (by decide) rfl (by rw [hR.1, hR.2]; decide) (Nat.le_of_ble_eq_true rfl) dL_act_1128 (ok_qI fun v75 s76 => ?_)
                    refine ok_if_eq C 1161 dL_act_1131 (by decide) ?_ ?_
                    · refine ok_aload_n C 3 dL_act_1161 rfl ?_
                      refine ok_bipush C (v := 18) dL_act_1162 (by decide) ?_
                      refine ok_iconst C (v := 1) dL_act_1164 (by decide) ?_
                      refine ok_newI C kw_136 dL_act_1165 (fun q77 s78 => ?_)
                      refine ok_dup C dL_act_1167 rfl ?_
                      refine ok_iconst C (v := 0) dL_act_1168 (by decide) ?_
                      refine ok_iload C 1 dL_act_1169 rfl ?_
                      refine ok_iast C dL_act_1171 (fun s79 _ => ?_)
                      refine ok_callSW C [.ref a0, .int 18, .ref q77] (F := fL_thrown a0 18 q77) (ctL_thrown (C.2.2.2.2.2.2.2.2.1) a0 18 q77) vwL_189 rfl (by rw [hR.1, hR.2]; decide) (Nat.le_of_ble_eq_true rfl) dL_act_1172 (ok_qI fun v80 s81 => ?_)
                      refine ok_iconst C (v := 3) dL_act_1175 (by decide) ?_
                      refine ok_icmp_ne C 1183 dL_act_1176 (by decide) ?_ ?_
                      · refine ok_iconst C (v := 0) dL_act_1183 (by decide) ?_
                        exact ok_zreturn C dL_act_1184
                      · refine ok_iconst C (v := 1) dL_act_1179 (by decide) ?_
                        refine ok_goto C 1184 dL_act_1180 (by decide) ?_
                        exact ok_zreturn C dL_act_1184
                    · refine ok_aload_n C 3 dL_act_1134 rfl ?_
                      refine ok_iload C 1 dL_act_1135 rfl ?_
                      refine ok_callV C T [.int v5] (F := fX6_lock a0 v5) (ctX6_lock (C.2.2.2.2.2.2.2.2.1) a0 v5) vlL_89 viX6_lock rfl rfl (by decide) rfl (by rw [hR.1, hR.2]; decide) (Nat.le_of_ble_eq_true rfl) dL_act_1137 (ok_qI fun v82 s83 => ?_)
                      refine ok_aload_n C 4 dL_act_1140 rfl ?_
                      refine ok_getNR C fnrL_145_13 dL_act_1141 (fun q84 => ?_)
                      refine ok_iload C 1 dL_act_1144 rfl ?_
                      refine ok_iald C dL_act_1146 (fun v85 => ?_)
                      refine ok_iload C 0 dL_act_1147 rfl ?_
                      refine ok_isub C dL_act_1149 ?_
                      refine ok_icmp_ne C 1157 dL_act_1150 (by decide) ?_ ?_
                      · refine ok_iconst C (v := 0) dL_act_1157 (by decide) ?_
                        refine ok_goto C 1184 dL_act_1158 (by decide) ?_
                        exact ok_zreturn C dL_act_1184
                      · refine ok_iconst C (v := 1) dL_act_1153 (by decide) ?_
                        refine ok_goto C 1184 dL_act_1154 (by decide) ?_
                        exact ok_zreturn C dL_act_1184
                · refine ok_aload_n C 4 dL_act_971 rfl ?_
                  refine ok_iconst C (v := 0) dL_act_972 (by decide) ?_
                  refine ok_aload_n C 3 dL_act_973 rfl ?_
                  refine ok_getNR C fnrL_134_13 dL_act_974 (fun q86 => ?_)
                  refine ok_iconst C (v := 3) dL_act_977 (by decide) ?_
                  refine ok_iald C dL_act_978 (fun v87 => ?_)
                  refine ok_callVX C T [.int 0, .int v87] (F := fun sc => fX17_next sc a2 0 v87) hsc (ctX17_next (C.2.2.2.2.2.2.2.2.1) a2 0 v87) vlL_205 viX17_next rfl rfl (by decide) rfl (by rw [hR.1, hR.2]; decide) (Nat.le_of_ble_eq_true rfl) dL_act_979 (ok_qI fun v88 s89 => ?_)
                  refine ok_istore C (i := 5) [(5, .int v88), (4, .int v5), (3, .int v1), (0, .ref a0), (1, .ref a1), (2, .ref a2)] dL_act_982 (by rw [hn]; decide) rfl ?_
                  refine ok_aload_n C 4 dL_act_984 rfl ?_
                  refine ok_getNR C fnrL_140_13 dL_act_985 (fun q90 => ?_)
                  refine ok_iload C 1 dL_act_988 rfl ?_
                  refine ok_iald C dL_act_990 (fun v91 => ?_)
                  refine ok_if_lt C 1012 dL_act_991 (by decide) ?_ ?_
                  · refine OK.sub (lv' := [(0, .ref a0), (4, .int v5), (5, .int v88)]) [3, 1, 0] rfl ?_
                    exact oL_act_1012 C T hn hR hin hsc a0 v5 v88 s89
                  · refine ok_aload_n C 4 dL_act_994 rfl ?_
                    refine ok_iload C 1 dL_act_995 rfl ?_
                    refine ok_callV C T [.int v5] (F := fX19_need a1 v5) (ctX19_need (C.2.2.2.2.2.2.2.2.1) a1 v5) vlL_219 viX19_need rfl rfl (by decide) rfl (by rw [hR.1, hR.2]; decide) (Nat.le_of_ble_eq_true rfl) dL_act_997 (ok_qI fun v92 s93 => ?_)
                    refine ok_aload_n C 4 dL_act_1000 rfl ?_
                    refine ok_getNR C fnrL_134_13 dL_act_1001 (fun q94 => ?_)
                    refine ok_iconst C (v := 2) dL_act_1004 (by decide) ?_
                    refine ok_iald C dL_act_1005 (fun v95 => ?_)
                    refine ok_iload C 0 dL_act_1006 rfl ?_
                    refine ok_iadd C dL_act_1008 ?_
                    refine ok_icmp_ge C 1041 dL_act_1009 (by decide) ?_ ?_
                    · refine ok_aload_n C 4 dL_act_1041 rfl ?_
                      refine ok_getNR C fnrL_140_13 dL_act_1042 (fun q96 => ?_)
                      refine ok_iload C 1 dL_act_1045 rfl ?_
                      refine ok_iload C 0 dL_act_1047 rfl ?_
                      refine ok_iast C dL_act_1049 (fun s97 _ => ?_)
                      refine ok_aload_n C 4 dL_act_1050 rfl ?_
                      refine ok_getNR C fnrL_160_13 dL_act_1051 (fun q98 => ?_)
                      refine ok_iload C 1 dL_act_1054 rfl ?_
                      refine ok_iconst C (v := 0) dL_act_1056 (by decide) ?_
                      refine ok_iast C dL_act_1057 (fun s99 _ => ?_)
                      refine ok_aload_n C 3 dL_act_1058 rfl ?_
                      refine ok_iload C 1 dL_act_1059 rfl ?_
                      refine ok_iload C 0 dL_act_1061 rfl ?_
                      refine ok_callV C T [.int v5, .int v88] (F := fX6_open a0 v5 v88) (ctX6_open (C.2.2.2.2.2.2.2.2.1) a0 v5 v88) vlL_86 viX6_open rfl rfl (by decide) rfl (by rw [hR.1, hR.2]; decide) (Nat.le_of_ble_eq_true rfl) dL_act_1063 (ok_qI fun v100 s101 => ?_)
                      refine ok_aload_n C 4 dL_act_1066 rfl ?_
                      refine ok_iload C 1 dL_act_1067 rfl ?_
                      refine ok_callV C T [.int v5] (F := fX19_gap a1 v5) (ctX19_gap (C.2.2.2.2.2.2.2.2.1) a1 v5) vlL_148 viX19_gap rfl rfl (by decide) rfl (by rw [hR.1, hR.2]; decide) (Nat.le_of_ble_eq_true rfl) dL_act_1069 (ok_qI fun v102 s103 => ?_)
                      refine ok_icmp_ne C 1108 dL_act_1072 (by decide) ?_ ?_
                      · refine ok_iconst C (v := 0) dL_act_1108 (by decide) ?_
                        exact ok_zreturn C dL_act_1109
                      · refine ok_aload_n C 3 dL_act_1075 rfl ?_
                        refine ok_bipush C (v := 17) dL_act_1076 (by decide) ?_
                        refine ok_iconst C (v := 2) dL_act_1078 (by decide) ?_
                        refine ok_newI C kw_136 dL_act_1079 (fun q104 s105 => ?_)
                        refine ok_dup C dL_act_1081 rfl ?_
                        refine ok_iconst C (v := 0) dL_act_1082 (by decide) ?_
                        refine ok_iload C 1 dL_act_1083 rfl ?_
                        refine ok_iast C dL_act_1085 (fun s106 _ => ?_)
                        refine ok_dup C dL_act_1086 rfl ?_
                        refine ok_iconst C (v := 1) dL_act_1087 (by decide) ?_
                        refine ok_aload_n C 4 dL_act_1088 rfl ?_
                        refine ok_getNR C fnrL_134_13 dL_act_1089 (fun q107 => ?_)
                        refine ok_iconst C (v := 3) dL_act_1092 (by decide) ?_
                        refine ok_iald C dL_act_1093 (fun v108 => ?_)
                        refine ok_iconst C (v := 1) dL_act_1094 (by decide) ?_
                        refine ok_iadd C dL_act_1095 ?_
                        refine ok_iast C dL_act_1096 (fun s109 _ => ?_)
                        refine ok_callSW C [.ref a0, .int 17, .ref q104] (F := fL_thrown a0 17 q104) (ctL_thrown (C.2.2.2.2.2.2.2.2.1) a0 17 q104) vwL_189 rfl (by rw [hR.1, hR.2]; decide) (Nat.le_of_ble_eq_true rfl) dL_act_1097 (ok_qI fun v110 s111 => ?_)
                        refine ok_iconst C (v := 3) dL_act_1100 (by decide) ?_
                        refine ok_icmp_ne C 1108 dL_act_1101 (by decide) ?_ ?_
                        · refine ok_iconst C (v := 0) dL_act_1108 (by decide) ?_
                          exact ok_zreturn C dL_act_1109
                        · refine ok_iconst C (v := 1) dL_act_1104 (by decide) ?_
                          refine ok_goto C 1109 dL_act_1105 (by decide) ?_
                          exact ok_zreturn C dL_act_1109
                    · refine OK.sub (lv' := [(0, .ref a0), (4, .int v5), (5, .int v88)]) [3, 1, 0] rfl ?_
                      exact oL_act_1012 C T hn hR hin hsc a0 v5 v88 s93
              · refine ok_aload_n C 4 dL_act_798 rfl ?_
                refine ok_iconst C (v := 0) dL_act_799 (by decide) ?_
                refine ok_iconst C (v := 1) dL_act_800 (by decide) ?_
                refine ok_callVX C T [.int 0, .int 1] (F := fun sc => fX17_next sc a2 0 1) hsc (ctX17_next (C.2.2.2.2.2.2.2.2.1) a2 0 1) vlL_205 viX17_next rfl rfl (by decide) rfl (by rw [hR.1, hR.2]; decide) (Nat.le_of_ble_eq_true rfl) dL_act_801 (ok_qI fun v112 s113 => ?_)
                refine ok_if_ne C 811 dL_act_804 (by decide) ?_ ?_
                · refine ok_iconst C (v := 0) dL_act_811 (by decide) ?_
                  refine OK.sub (lv' := [(0, .ref a0), (1, .ref a1), (4, .int v5)]) [2, 3, 0] rfl ?_
                  exact oL_act_812 C T hn hR hin hsc a0 a1 v5 0 s113
                · refine ok_iconst C (v := 1) dL_act_807 (by decide) ?_
                  refine ok_goto C 812 dL_act_808 (by decide) ?_
                  refine OK.sub (lv' := [(0, .ref a0), (1, .ref a1), (4, .int v5)]) [2, 3, 0] rfl ?_
                  exact oL_act_812 C T hn hR hin hsc a0 a1 v5 1 s113
            · refine ok_aload_n C 3 dL_act_639 rfl ?_
              refine ok_getNR C fnrL_145_13 dL_act_640 (fun q114 => ?_)
              refine ok_iload C 0 dL_act_643 rfl ?_
              refine ok_iald C dL_act_645 (fun v115 => ?_)
              refine ok_if_ne C 677 dL_act_646 (by decide) ?_ ?_
              · refine ok_aload_n C 4 dL_act_677 rfl ?_
                refine ok_iconst C (v := 0) dL_act_678 (by decide) ?_
                refine ok_aload_n C 3 dL_act_679 rfl ?_
                refine ok_getNR C fnrL_145_13 dL_act_680 (fun q116 => ?_)
                refine ok_iload C 0 dL_act_683 rfl ?_
                refine ok_iald C dL_act_685 (fun v117 => ?_)
                refine ok_iconst C (v := 1) dL_act_686 (by decide) ?_
                refine ok_isub C dL_act_687 ?_
                refine ok_callVX C T [.int 0, .int (v117 - 1)] (F := fun sc => fX17_next sc a2 0 (v117 - 1)) hsc (ctX17_next (C.2.2.2.2.2.2.2.2.1) a2 0 (v117 - 1)) vlL_205 viX17_next rfl rfl (by decide) rfl (by rw [hR.1, hR.2]; decide) (Nat.le_of_ble_eq_true rfl) dL_act_688 (ok_qI fun v118 s119 => ?_)
                refine ok_istore C (i := 5) [(5, .int v118), (4, .int v5), (3, .int v1), (0, .ref a0), (1, .ref a1), (2, .ref a2)] dL_act_691 (by rw [hn]; decide) rfl ?_
                refine ok_aload_n C 4 dL_act_693 rfl ?_
                refine ok_getNR C fnrL_167_13 dL_act_694 (fun q120 => ?_)
                refine ok_iload C 1 dL_act_697 rfl ?_
                refine ok_aaldI C dL_act_699 (fun q121 => ?_)
                refine ok_iload C 0 dL_act_700 rfl ?_
                refine ok_iald C dL_act_702 (fun v122 => ?_)
                refine ok_istore C (i := 6) [(6, .int v122), (5, .int v118), (4, .int v5), (3, .int v1), (0, .ref a0), (1, .ref a1), (2, .ref a2)] dL_act_703 (by rw [hn]; decide) rfl ?_
                refine ok_iload C 1 dL_act_705 rfl ?_
                refine ok_istore C (i := 7) [(7, .int v118), (6, .int v122), (5, .int v118), (4, .int v5), (3, .int v1), (0, .ref a0), (1, .ref a1), (2, .ref a2)] dL_act_707 (by rw [hn]; decide) rfl ?_
                refine OK.sub (lv' := [(0, .ref a0), (1, .ref a1), (4, .int v5), (5, .int v118), (6, .int v122), (7, .int v118)]) [5, 6, 3, 2, 1, 0] rfl ?_
                exact oL_act_709 C T hn hR hin hsc FU a0 a1 v5 v118 v122 v118 s119
              · refine ok_aload_n C 2 dL_act_649 rfl ?_
                refine ok_bipush C (v := 15) dL_act_650 (by decide) ?_
                refine ok_iconst C (v := 2) dL_act_652 (by decide) ?_
                refine ok_newI C kw_136 dL_act_653 (fun q123 s124 => ?_)
                refine ok_dup C dL_act_655 rfl ?_
                refine ok_iconst C (v := 0) dL_act_656 (by decide) ?_
                refine ok_iload C 0 dL_act_657 rfl ?_
                refine ok_iast C dL_act_659 (fun s125 _ => ?_)
                refine ok_dup C dL_act_660 rfl ?_
                refine ok_iconst C (v := 1) dL_act_661 (by decide) ?_
                refine ok_iconst C (v := 0) dL_act_662 (by decide) ?_
                refine ok_iast C dL_act_663 (fun s126 _ => ?_)
                refine ok_callSW C [.ref a0, .int 15, .ref q123] (F := fL_thrown a0 15 q123) (ctL_thrown (C.2.2.2.2.2.2.2.2.1) a0 15 q123) vwL_189 rfl (by rw [hR.1, hR.2]; decide) (Nat.le_of_ble_eq_true rfl) dL_act_664 (ok_qI fun v127 s128 => ?_)
                refine ok_iconst C (v := 2) dL_act_667 (by decide) ?_
                refine ok_icmp_ne C 675 dL_act_668 (by decide) ?_ ?_
                · refine ok_iconst C (v := 0) dL_act_675 (by decide) ?_
                  exact ok_zreturn C dL_act_676
                · refine ok_iconst C (v := 1) dL_act_671 (by decide) ?_
                  refine ok_goto C 676 dL_act_672 (by decide) ?_
                  exact ok_zreturn C dL_act_676
          · refine ok_aload_n C 3 dL_act_499 rfl ?_
            refine ok_getNI C fnrL_170_13 dL_act_500 (fun v129 => ?_)
            refine ok_if_ne C 534 dL_act_503 (by decide) ?_ ?_
            · refine ok_aload_n C 4 dL_act_534 rfl ?_
              refine ok_iconst C (v := 0) dL_act_535 (by decide) ?_
              refine ok_aload_n C 3 dL_act_536 rfl ?_
              refine ok_getNI C fnrL_170_13 dL_act_537 (fun v130 => ?_)
              refine ok_iconst C (v := 1) dL_act_540 (by decide) ?_
              refine ok_isub C dL_act_541 ?_
              refine ok_callVX C T [.int 0, .int (v130 - 1)] (F := fun sc => fX17_next sc a2 0 (v130 - 1)) hsc (ctX17_next (C.2.2.2.2.2.2.2.2.1) a2 0 (v130 - 1)) vlL_205 viX17_next rfl rfl (by decide) rfl (by rw [hR.1, hR.2]; decide) (Nat.le_of_ble_eq_true rfl) dL_act_542 (ok_qI fun v131 s132 => ?_)
              refine ok_istore C (i := 5) [(5, .int v131), (4, .int v5), (3, .int v1), (0, .ref a0), (1, .ref a1), (2, .ref a2)] dL_act_545 (by rw [hn]; decide) rfl ?_
              refine ok_aload_n C 4 dL_act_547 rfl ?_
              refine ok_getNR C fnrL_178_13 dL_act_548 (fun q133 => ?_)
              refine ok_iload C 0 dL_act_551 rfl ?_
              refine ok_iald C dL_act_553 (fun v134 => ?_)
              refine ok_if_eq C 573 dL_act_554 (by decide) ?_ ?_
              · refine OK.sub (lv' := [(0, .ref a0), (4, .int v5), (5, .int v131)]) [3, 1, 0] rfl ?_
                exact oL_act_573 C T hn hR hin hsc a0 v5 v131 s132
              · refine ok_aload_n C 4 dL_act_557 rfl ?_
                refine ok_getNR C fnrL_181_13 dL_act_558 (fun q135 => ?_)
                refine ok_iload C 0 dL_act_561 rfl ?_
                refine ok_iald C dL_act_563 (fun v136 => ?_)
                refine ok_aload_n C 4 dL_act_564 rfl ?_
                refine ok_iload C 1 dL_act_565 rfl ?_
                refine ok_callV C T [.int v5] (F := fX19_gap a1 v5) (ctX19_gap (C.2.2.2.2.2.2.2.2.1) a1 v5) vlL_148 viX19_gap rfl rfl (by decide) rfl (by rw [hR.1, hR.2]; decide) (Nat.le_of_ble_eq_true rfl) dL_act_567 (ok_qI fun v137 s138 => ?_)
                refine ok_icmp_le C 602 dL_act_570 (by decide) ?_ ?_
                · refine ok_aload_n C 4 dL_act_602 rfl ?_
                  refine ok_iload C 1 dL_act_603 rfl ?_
                  refine ok_iload C 0 dL_act_605 rfl ?_
                  refine ok_callV C T [.int v5, .int v131] (F := fX19_puts a1 v5 v131) (ctX19_puts (C.2.2.2.2.2.2.2.2.1) a1 v5 v131) vlL_215 viX19_puts rfl rfl (by decide) rfl (by rw [hR.1, hR.2]; decide) (Nat.le_of_ble_eq_true rfl) dL_act_607 (ok_qV fun s139 => ?_)
                  refine ok_aload_n C 3 dL_act_610 rfl ?_
                  refine ok_iload C 1 dL_act_611 rfl ?_
                  refine ok_iload C 0 dL_act_613 rfl ?_
                  refine ok_callV C T [.int v5, .int v131] (F := fX6_put a0 v5 v131) (ctX6_put (C.2.2.2.2.2.2.2.2.1) a0 v5 v131) vlL_76 viX6_put rfl rfl (by decide) rfl (by rw [hR.1, hR.2]; decide) (Nat.le_of_ble_eq_true rfl) dL_act_615 (ok_qI fun v140 s141 => ?_)
                  refine ok_aload_n C 4 dL_act_618 rfl ?_
                  refine ok_iload C 1 dL_act_619 rfl ?_
                  refine ok_callV C T [.int v5] (F := fX19_gap a1 v5) (ctX19_gap (C.2.2.2.2.2.2.2.2.1) a1 v5) vlL_148 viX19_gap rfl rfl (by decide) rfl (by rw [hR.1, hR.2]; decide) (Nat.le_of_ble_eq_true rfl) dL_act_621 (ok_qI fun v142 s143 => ?_)
                  refine ok_icmp_ne C 631 dL_act_624 (by decide) ?_ ?_
                  · refine ok_iconst C (v := 0) dL_act_631 (by decide) ?_
                    exact ok_zreturn C dL_act_632
                  · refine ok_iconst C (v := 1) dL_act_627 (by decide) ?_
                    refine ok_goto C 632 dL_act_628 (by decide) ?_
                    exact ok_zreturn C dL_act_632
                · refine OK.sub (lv' := [(0, .ref a0), (4, .int v5), (5, .int v131)]) [3, 1, 0] rfl ?_
                  exact oL_act_573 C T hn hR hin hsc a0 v5 v131 s138
            · refine ok_aload_n C 2 dL_act_506 rfl ?_
              refine ok_bipush C (v := 14) dL_act_507 (by decide) ?_
              refine ok_iconst C (v := 2) dL_act_509 (by decide) ?_
              refine ok_newI C kw_136 dL_act_510 (fun q144 s145 => ?_)
              refine ok_dup C dL_act_512 rfl ?_
              refine ok_iconst C (v := 0) dL_act_513 (by decide) ?_
              refine ok_iload C 0 dL_act_514 rfl ?_
              refine ok_iast C dL_act_516 (fun s146 _ => ?_)
              refine ok_dup C dL_act_517 rfl ?_
              refine ok_iconst C (v := 1) dL_act_518 (by decide) ?_
              refine ok_iconst C (v := 0) dL_act_519 (by decide) ?_
              refine ok_iast C dL_act_520 (fun s147 _ => ?_)
              refine ok_callSW C [.ref a0, .int 14, .ref q144] (F := fL_thrown a0 14 q144) (ctL_thrown (C.2.2.2.2.2.2.2.2.1) a0 14 q144) vwL_189 rfl (by rw [hR.1, hR.2]; decide) (Nat.le_of_ble_eq_true rfl) dL_act_521 (ok_qI fun v148 s149 => ?_)
              refine ok_iconst C (v := 2) dL_act_524 (by decide) ?_
              refine ok_icmp_ne C 532 dL_act_525 (by decide) ?_ ?_
              · refine ok_iconst C (v := 0) dL_act_532 (by decide) ?_
                exact ok_zreturn C dL_act_533
              · refine ok_iconst C (v := 1) dL_act_528 (by decide) ?_
                refine ok_goto C 533 dL_act_529 (by decide) ?_
                exact ok_zreturn C dL_act_533
        · refine ok_aload_n C 3 dL_act_351 rfl ?_
          refine ok_getNR C fnrL_142_13 dL_act_352 (fun q150 => ?_)
          refine ok_iload C 0 dL_act_355 rfl ?_
          refine ok_iald C dL_act_357 (fun v151 => ?_)
          refine ok_if_ne C 389 dL_act_358 (by decide) ?_ ?_
          · refine ok_aload_n C 4 dL_act_389 rfl ?_
            refine ok_iconst C (v := 0) dL_act_390 (by decide) ?_
            refine ok_aload_n C 3 dL_act_391 rfl ?_
            refine ok_getNR C fnrL_142_13 dL_act_392 (fun q152 => ?_)
            refine ok_iload C 0 dL_act_395 rfl ?_
            refine ok_iald C dL_act_397 (fun v153 => ?_)
            refine ok_iconst C (v := 1) dL_act_398 (by decide) ?_
            refine ok_isub C dL_act_399 ?_
            refine ok_callVX C T [.int 0, .int (v153 - 1)] (F := fun sc => fX17_next sc a2 0 (v153 - 1)) hsc (ctX17_next (C.2.2.2.2.2.2.2.2.1) a2 0 (v153 - 1)) vlL_205 viX17_next rfl rfl (by decide) rfl (by rw [hR.1, hR.2]; decide) (Nat.le_of_ble_eq_true rfl) dL_act_400 (ok_qI fun v154 s155 => ?_)
            refine ok_istore C (i := 5) [(5, .int v154), (4, .int v5), (3, .int v1), (0, .ref a0), (1, .ref a1), (2, .ref a2)] dL_act_403 (by rw [hn]; decide) rfl ?_
            refine ok_aload_n C 4 dL_act_405 rfl ?_
            refine ok_getNR C fnrL_163_13 dL_act_406 (fun q156 => ?_)
            refine ok_iload C 1 dL_act_409 rfl ?_
            refine ok_aaldI C dL_act_411 (fun q157 => ?_)
            refine ok_iload C 0 dL_act_412 rfl ?_
            refine ok_iald C dL_act_414 (fun v158 => ?_)
            refine ok_istore C (i := 6) [(6, .int v158), (5, .int v154), (4, .int v5), (3, .int v1), (0, .ref a0), (1, .ref a1), (2, .ref a2)] dL_act_415 (by rw [hn]; decide) rfl ?_
            refine ok_iload C 1 dL_act_417 rfl ?_
            refine ok_istore C (i := 7) [(7, .int v154), (6, .int v158), (5, .int v154), (4, .int v5), (3, .int v1), (0, .ref a0), (1, .ref a1), (2, .ref a2)] dL_act_419 (by rw [hn]; decide) rfl ?_
            refine OK.sub (lv' := [(0, .ref a0), (1, .ref a1), (4, .int v5), (5, .int v154), (6, .int v158), (7, .int v154)]) [5, 6, 3, 2, 1, 0] rfl ?_
            exact oL_act_421 C T hn hR hin hsc FU a0 a1 v5 v154 v158 v154 s155
          · refine ok_aload_n C 2 dL_act_361 rfl ?_
            refine ok_bipush C (v := 13) dL_act_362 (by decide) ?_
            refine ok_iconst C (v := 2) dL_act_364 (by decide) ?_
            refine ok_newI C kw_136 dL_act_365 (fun q159 s160 => ?_)
            refine ok_dup C dL_act_367 rfl ?_
            refine ok_iconst C (v := 0) dL_act_368 (by decide) ?_
            refine ok_iload C 0 dL_act_369 rfl ?_
            refine ok_iast C dL_act_371 (fun s161 _ => ?_)
            refine ok_dup C dL_act_372 rfl ?_
            refine ok_iconst C (v := 1) dL_act_373 (by decide) ?_
            refine ok_iconst C (v := 0) dL_act_374 (by decide) ?_
            refine ok_iast C dL_act_375 (fun s162 _ => ?_)
            refine ok_callSW C [.ref a0, .int 13, .ref q159] (F := fL_thrown a0 13 q159) (ctL_thrown (C.2.2.2.2.2.2.2.2.1) a0 13 q159) vwL_189 rfl (by rw [hR.1, hR.2]; decide) (Nat.le_of_ble_eq_true rfl) dL_act_376 (ok_qI fun v163 s164 => ?_)
            refine ok_iconst C (v := 2) dL_act_379 (by decide) ?_
            refine ok_icmp_ne C 387 dL_act_380 (by decide) ?_ ?_
            · refine ok_iconst C (v := 0) dL_act_387 (by decide) ?_
              exact ok_zreturn C dL_act_388
            · refine ok_iconst C (v := 1) dL_act_383 (by decide) ?_
              refine ok_goto C 388 dL_act_384 (by decide) ?_
              exact ok_zreturn C dL_act_388
      · refine ok_aload_n C 4 dL_act_197 rfl ?_
        refine ok_iconst C (v := 1) dL_act_198 (by decide) ?_
        refine ok_aload_n C 4 dL_act_199 rfl ?_
        refine ok_iconst C (v := 0) dL_act_200 (by decide) ?_
        refine ok_iconst C (v := 1) dL_act_201 (by decide) ?_
        refine ok_callVX C T [.int 0, .int 1] (F := fun sc => fX17_next sc a2 0 1) hsc (ctX17_next (C.2.2.2.2.2.2.2.2.1) a2 0 1) vlL_205 viX17_next rfl rfl (by decide) rfl (by rw [hR.1, hR.2]; decide) (Nat.le_of_ble_eq_true rfl) dL_act_202 (ok_qI fun v165 s166 => ?_)
        refine ok_if_ne C 214 dL_act_205 (by decide) ?_ ?_
        · refine ok_bipush C (v := 9) dL_act_214 (by decide) ?_
          refine OK.sub (lv' := [(0, .ref a0), (1, .ref a1), (4, .int v5)]) [2, 3, 0] rfl ?_
          exact oL_act_216 C T hn hR hin hsc a0 a1 v5 a2 1 9 s166
        · refine ok_sipush C (v := 200) dL_act_208 (by decide) ?_
          refine ok_goto C 216 dL_act_211 (by decide) ?_
          refine OK.sub (lv' := [(0, .ref a0), (1, .ref a1), (4, .int v5)]) [2, 3, 0] rfl ?_
          exact oL_act_216 C T hn hR hin hsc a0 a1 v5 a2 1 200 s166
    · refine ok_aload_n C 4 dL_act_113 rfl ?_
      refine ok_iconst C (v := 1) dL_act_114 (by decide) ?_
      refine ok_iconst C (v := 5) dL_act_115 (by decide) ?_
      refine ok_callVX C T [.int 1, .int 5] (F := fun sc => fX17_next sc a2 1 5) hsc (ctX17_next (C.2.2.2.2.2.2.2.2.1) a2 1 5) vlL_205 viX17_next rfl rfl (by decide) rfl (by rw [hR.1, hR.2]; decide) (Nat.le_of_ble_eq_true rfl) dL_act_116 (ok_qI fun v167 s168 => ?_)
      refine ok_istore C (i := 5) [(5, .int v167), (4, .int v5), (3, .int v1), (0, .ref a0), (1, .ref a1), (2, .ref a2)] dL_act_119 (by rw [hn]; decide) rfl ?_
      refine ok_aload_n C 4 dL_act_121 rfl ?_
      refine ok_getNR C fnrL_203_13 dL_act_122 (fun q169 => ?_)
      refine ok_iconst C (v := 4) dL_act_125 (by decide) ?_
      refine ok_iald C dL_act_126 (fun v170 => ?_)
      refine ok_istore C (i := 6) [(6, .int v170), (5, .int v167), (4, .int v5), (3, .int v1), (0, .ref a0), (1, .ref a1), (2, .ref a2)] dL_act_127 (by rw [hn]; decide) rfl ?_
      refine ok_iconst C (v := 0) dL_act_129 (by decide) ?_
      refine ok_istore C (i := 7) [(7, .int 0), (6, .int v170), (5, .int v167), (4, .int v5), (3, .int v1), (0, .ref a0), (1, .ref a1), (2, .ref a2)] dL_act_130 (by rw [hn]; decide) rfl ?_
      refine OK.sub (lv' := [(0, .ref a0), (1, .ref a1), (5, .int v167), (6, .int v170), (7, .int 0)]) [5, 6, 2, 1, 0] rfl ?_
      exact oL_act_132 C T hn hR hin hsc FU a0 a1 v167 v170 0 s168
  · refine ok_aload_n C 4 dL_act_28 rfl ?_
    refine ok_iconst C (v := 1) dL_act_29 (by decide) ?_
    refine ok_iconst C (v := 5) dL_act_30 (by decide) ?_
    refine ok_callVX C T [.int 1, .int 5] (F := fun sc => fX17_next sc a2 1 5) hsc (ctX17_next (C.2.2.2.2.2.2.2.2.1) a2 1 5) vlL_205 viX17_next rfl rfl (by decide) rfl (by rw [hR.1, hR.2]; decide) (Nat.le_of_ble_eq_true rfl) dL_act_31 (ok_qI fun v171 s172 => ?_)
    refine ok_istore C (i := 5) [(5, .int v171), (4, .int v5), (3, .int v1), (0, .ref a0), (1, .ref a1), (2, .ref a2)] dL_act_34 (by rw [hn]; decide) rfl ?_
    refine ok_aload_n C 4 dL_act_36 rfl ?_
    refine ok_getNR C fnrL_203_13 dL_act_37 (fun q173 => ?_)
    refine ok_iconst C (v := 1) dL_act_40 (by decide) ?_
    refine ok_iald C dL_act_41 (fun v174 => ?_)
    refine ok_istore C (i := 6) [(6, .int v174), (5, .int v171), (4, .int v5), (3, .int v1), (0, .ref a0), (1, .ref a1), (2, .ref a2)] dL_act_42 (by rw [hn]; decide) rfl ?_
    refine ok_iconst C (v := 0) dL_act_44 (by decide) ?_
    refine ok_istore C (i := 7) [(7, .int 0), (6, .int v174), (5, .int v171), (4, .int v5), (3, .int v1), (0, .ref a0), (1, .ref a1), (2, .ref a2)] dL_act_45 (by rw [hn]; decide) rfl ?_
    refine OK.sub (lv' := [(0, .ref a0), (1, .ref a1), (5, .int v171), (6, .int v174), (7, .int 0)]) [5, 6, 2, 1, 0] rfl ?_
    exact oL_act_47 C T hn hR hin hsc FU a0 a1 v171 v174 0 s172
theorem ctL_act {l : Launch} (hl : l.stackTraces = false) {D : va_G} {dA : Nat → ClassId} {B0 : Nat} (a0 : Nat) (a1 : Nat) (a2 : Nat) : CtS l D dA B0 yL_act (.code yL_act cL_act 9 (some (.boolean)) :: ax_ALL) 12 301 [.ref a0, .ref a1, .ref a2] (fun sc => fL_act sc a0 a1 a2) :=
  CtS.of hl (by decide +kernel) (Nat.le_of_ble_eq_true rfl) fun Γ C _ _ _ _ e5 e6 e7 T hin => oL_act C T e5 ⟨e6, e7⟩ hin rfl a0 a1 a2 _
