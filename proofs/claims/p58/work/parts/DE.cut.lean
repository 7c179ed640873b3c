/-! THE LAW: a change, cut into its kinds -/
def fB1 (sc : Nat × (Nat → Int32)) (a0 : Nat) (a1 : Nat) (a2 : Nat) (v5 : Int32) (s6 : AS) : Option AR :=
  cV s6 a2 11 (fX17_next sc a2 1 5 s6) (qI (fun v171 s172 =>
  gR s172 a1 13 5 (fun q173 =>
  aI s172 q173 100 1 (fun v174 =>
  fL_act_47 sc FU a0 a1 v171 v174 0 s172))))
def fB2 (sc : Nat × (Nat → Int32)) (a0 : Nat) (a1 : Nat) (a2 : Nat) (v5 : Int32) (s6 : AS) : Option AR :=
  cV s6 a2 11 (fX17_next sc a2 1 5 s6) (qI (fun v167 s168 =>
  gR s168 a1 13 5 (fun q169 =>
  aI s168 q169 100 4 (fun v170 =>
  fL_act_132 sc FU a0 a1 v167 v170 0 s168))))
def fB5 (sc : Nat × (Nat → Int32)) (a0 : Nat) (a1 : Nat) (a2 : Nat) (v5 : Int32) (s6 : AS) : Option AR :=
  gR s6 a1 13 9 (fun q150 =>
  aI s6 q150 100 v5 (fun v151 =>
  if v151 = 0 then (
    nA s6 100 2 (fun q159 s160 =>
    uI s160 q159 0 v5 (fun s161 =>
    uI s161 q159 1 0 (fun s162 =>
    cR s162 (fL_thrown a0 13 q159 s162) (qI (fun v163 s164 =>
    if v163 = (2 : Int32) then (
      rZ 1 s164)
    else (
      rZ 0 s164)))))))
  else (
    gR s6 a1 13 9 (fun q152 =>
    aI s6 q152 100 v5 (fun v153 =>
    cV s6 a2 11 (fX17_next sc a2 0 (v153 - 1) s6) (qI (fun v154 s155 =>
    gR s155 a1 13 7 (fun q156 =>
    aR s155 q156 110 v5 (fun q157 =>
    aI s155 q157 100 v154 (fun v158 =>
    fL_act_421 sc FU a0 a1 v5 v154 v158 v154 s155))))))))))
def fB3 (sc : Nat × (Nat → Int32)) (a0 : Nat) (a1 : Nat) (a2 : Nat) (v5 : Int32) (s6 : AS) : Option AR :=
  cV s6 a2 11 (fX17_next sc a2 0 1 s6) (qI (fun v165 s166 =>
  if v165 = 0 then (
    fL_act_216 sc a0 a1 v5 a2 1 200 s166)
  else (
    fL_act_216 sc a0 a1 v5 a2 1 9 s166)))
def fB6 (sc : Nat × (Nat → Int32)) (a0 : Nat) (a1 : Nat) (a2 : Nat) (v5 : Int32) (s6 : AS) : Option AR :=
  gI s6 a1 13 14 (fun v129 =>
  if v129 = 0 then (
    nA s6 100 2 (fun q144 s145 =>
    uI s145 q144 0 v5 (fun s146 =>
    uI s146 q144 1 0 (fun s147 =>
    cR s147 (fL_thrown a0 14 q144 s147) (qI (fun v148 s149 =>
    if v148 = (2 : Int32) then (
      rZ 1 s149)
    else (
      rZ 0 s149)))))))
  else (
    gI s6 a1 13 14 (fun v130 =>
    cV s6 a2 11 (fX17_next sc a2 0 (v130 - 1) s6) (qI (fun v131 s132 =>
    gR s132 a1 13 3 (fun q133 =>
    aI s132 q133 100 v131 (fun v134 =>
    if v134 = 0 then (
      fL_act_573 sc a0 v5 v131 s132)
    else (
      gR s132 a1 13 2 (fun q135 =>
      aI s132 q135 100 v131 (fun v136 =>
      cV s132 a1 13 (fX19_gap a1 v5 s132) (qI (fun v137 s138 =>
      if v136 ≤ v137 then (
        cV s138 a1 13 (fX19_puts a1 v5 v131 s138) (qV (fun s139 =>
        cV s139 a0 10 (fX6_put a0 v5 v131 s139) (qI (fun v140 s141 =>
        cV s141 a1 13 (fX19_gap a1 v5 s141) (qI (fun v142 s143 =>
        if v140 = v142 then (
          rZ 1 s143)
        else (
          rZ 0 s143))))))))
      else (
        fL_act_573 sc a0 v5 v131 s138)))))))))))))
def fB8 (sc : Nat × (Nat → Int32)) (a0 : Nat) (a1 : Nat) (a2 : Nat) (v5 : Int32) (s6 : AS) : Option AR :=
  gR s6 a1 13 10 (fun q114 =>
  aI s6 q114 100 v5 (fun v115 =>
  if v115 = 0 then (
    nA s6 100 2 (fun q123 s124 =>
    uI s124 q123 0 v5 (fun s125 =>
    uI s125 q123 1 0 (fun s126 =>
    cR s126 (fL_thrown a0 15 q123 s126) (qI (fun v127 s128 =>
    if v127 = (2 : Int32) then (
      rZ 1 s128)
    else (
      rZ 0 s128)))))))
  else (
    gR s6 a1 13 10 (fun q116 =>
    aI s6 q116 100 v5 (fun v117 =>
    cV s6 a2 11 (fX17_next sc a2 0 (v117 - 1) s6) (qI (fun v118 s119 =>
    gR s119 a1 13 8 (fun q120 =>
    aR s119 q120 110 v5 (fun q121 =>
    aI s119 q121 100 v118 (fun v122 =>
    fL_act_709 sc FU a0 a1 v5 v118 v122 v118 s119))))))))))
def fB9 (sc : Nat × (Nat → Int32)) (a0 : Nat) (a1 : Nat) (a2 : Nat) (v5 : Int32) (s6 : AS) : Option AR :=
  cV s6 a2 11 (fX17_next sc a2 0 1 s6) (qI (fun v112 s113 =>
  if v112 = 0 then (
    fL_act_812 sc a0 a1 v5 1 s113)
  else (
    fL_act_812 sc a0 a1 v5 0 s113)))
def fB10 (sc : Nat × (Nat → Int32)) (a0 : Nat) (a1 : Nat) (a2 : Nat) (v5 : Int32) (s6 : AS) : Option AR :=
  gR s6 a1 13 1 (fun q86 =>
  aI s6 q86 100 3 (fun v87 =>
  cV s6 a2 11 (fX17_next sc a2 0 v87 s6) (qI (fun v88 s89 =>
  gR s89 a1 13 11 (fun q90 =>
  aI s89 q90 100 v5 (fun v91 =>
  if v91 < 0 then (
    fL_act_1012 sc a0 v5 v88 s89)
  else (
    cV s89 a1 13 (fX19_need a1 v5 s89) (qI (fun v92 s93 =>
    gR s93 a1 13 1 (fun q94 =>
    aI s93 q94 100 2 (fun v95 =>
    if (v95 + v88) ≤ v92 then (
      gR s93 a1 13 11 (fun q96 =>
      uI s93 q96 v5 v88 (fun s97 =>
      gR s97 a1 13 12 (fun q98 =>
      uI s97 q98 v5 0 (fun s99 =>
      cV s99 a0 10 (fX6_open a0 v5 v88 s99) (qI (fun v100 s101 =>
      cV s101 a1 13 (fX19_gap a1 v5 s101) (qI (fun v102 s103 =>
      if v100 = v102 then (
        nA s103 100 2 (fun q104 s105 =>
        uI s105 q104 0 v5 (fun s106 =>
        gR s106 a1 13 1 (fun q107 =>
        aI s106 q107 100 3 (fun v108 =>
        uI s106 q104 1 (v108 + 1) (fun s109 =>
        cR s109 (fL_thrown a0 17 q104 s109) (qI (fun v110 s111 =>
        if v110 = (3 : Int32) then (
          rZ 1 s111)
        else (
          rZ 0 s111)))))))))
      else (
        rZ 0 s103))))))))))
    else (
      fL_act_1012 sc a0 v5 v88 s93))))))))))))
def fB11 (sc : Nat × (Nat → Int32)) (a0 : Nat) (a1 : Nat) (a2 : Nat) (v5 : Int32) (s6 : AS) : Option AR :=
  gR s6 a1 13 10 (fun q73 =>
  aI s6 q73 100 v5 (fun v74 =>
  cV s6 a1 13 (fX19_lock a1 v5 s6) (qI (fun v75 s76 =>
  if v75 = 0 then (
    nA s76 100 1 (fun q77 s78 =>
    uI s78 q77 0 v5 (fun s79 =>
    cR s79 (fL_thrown a0 18 q77 s79) (qI (fun v80 s81 =>
    if v80 = (3 : Int32) then (
      rZ 1 s81)
    else (
      rZ 0 s81))))))
  else (
    cV s76 a0 10 (fX6_lock a0 v5 s76) (qI (fun v82 s83 =>
    gR s83 a1 13 10 (fun q84 =>
    aI s83 q84 100 v5 (fun v85 =>
    if v82 = (v85 - v74) then (
      rZ 1 s83)
    else (
      rZ 0 s83))))))))))
def fB13 (sc : Nat × (Nat → Int32)) (a0 : Nat) (a1 : Nat) (a2 : Nat) (v5 : Int32) (s6 : AS) : Option AR :=
  cV s6 a0 10 (fX6_unlock a0 v5 s6) (qI (fun v69 s70 =>
  cV s70 a1 13 (fX19_unlock a1 v5 s70) (qI (fun v71 s72 =>
  if v69 = v71 then (
    rZ 1 s72)
  else (
    rZ 0 s72)))))
def fB14 (sc : Nat × (Nat → Int32)) (a0 : Nat) (a1 : Nat) (a2 : Nat) (v5 : Int32) (s6 : AS) : Option AR :=
  nO s6 13 16 (fun q49 s50 =>
  cS s50 (fX19_init_ q49 a1 s50) (qV (fun s51 =>
  cV s51 q49 13 (fX19_unlock q49 v5 s51) (qI (fun v52 s53 =>
  cV s53 q49 13 (fX19_lock q49 v5 s53) (qI (fun v54 s55 =>
  if v54 = 0 then (
    nA s55 100 1 (fun q64 s65 =>
    uI s65 q64 0 v5 (fun s66 =>
    cR s66 (fL_thrown a0 19 q64 s66) (qI (fun v67 s68 =>
    if v67 = (3 : Int32) then (
      rZ 1 s68)
    else (
      rZ 0 s68))))))
  else (
    cV s55 a1 13 (fX19_unlock a1 v5 s55) (qI (fun v56 s57 =>
    cV s57 a1 13 (fX19_lock a1 v5 s57) (qI (fun v58 s59 =>
    if v58 = 0 then (
      rZ 0 s59)
    else (
      cV s59 a0 10 (fX6_relock a0 v5 s59) (qI (fun v60 s61 =>
      gR s61 a1 13 10 (fun q62 =>
      aI s61 q62 100 v5 (fun v63 =>
      if v60 = v63 then (
        rZ 1 s61)
      else (
        rZ 0 s61))))))))))))))))))
def fB15 (sc : Nat × (Nat → Int32)) (a0 : Nat) (a1 : Nat) (a2 : Nat) (v5 : Int32) (s6 : AS) : Option AR :=
  gR s6 a1 13 11 (fun q42 =>
  aI s6 q42 100 v5 (fun v43 =>
  if 0 ≤ v43 then (
    fL_act_1350 sc FU a0 a1 v5 s6)
  else (
    nA s6 100 1 (fun q44 s45 =>
    uI s45 q44 0 v5 (fun s46 =>
    cR s46 (fL_thrown a0 20 q44 s46) (qI (fun v47 s48 =>
    if v47 = (3 : Int32) then (
      rZ 1 s48)
    else (
      rZ 0 s48))))))))
def fB16 (sc : Nat × (Nat → Int32)) (a0 : Nat) (a1 : Nat) (a2 : Nat) (v5 : Int32) (s6 : AS) : Option AR :=
  gI s6 a1 13 14 (fun v7 =>
  if v7 = 0 then (
    nA s6 100 2 (fun q36 s37 =>
    uI s37 q36 0 0 (fun s38 =>
    uI s38 q36 1 1 (fun s39 =>
    cR s39 (fL_thrown a0 23 q36 s39) (qI (fun v40 s41 =>
    if v40 = (2 : Int32) then (
      rZ 1 s41)
    else (
      rZ 0 s41)))))))
  else (
    gI s6 a1 13 14 (fun v8 =>
    cV s6 a2 11 (fX17_next sc a2 0 (v8 - 1) s6) (qI (fun v9 s10 =>
    cV s10 a2 11 (fX17_next sc a2 1 3 s10) (qI (fun v11 s12 =>
    gR s12 a1 13 3 (fun q13 =>
    aI s12 q13 100 v9 (fun v14 =>
    if (v14 + v11) ≤ (14 : Int32) then (
      gR s12 a1 13 3 (fun q15 =>
      aI s12 q15 100 v9 (fun v16 =>
      uI s12 q15 v9 (v16 + v11) (fun s17 =>
      cV s17 a0 10 (fX6_buy a0 v9 v11 s17) (qI (fun v18 s19 =>
      gR s19 a1 13 3 (fun q20 =>
      aI s19 q20 100 v9 (fun v21 =>
      if v18 = v21 then (
        nA s19 100 2 (fun q22 s23 =>
        uI s23 q22 0 v9 (fun s24 =>
        gR s24 a1 13 3 (fun q25 =>
        aI s24 q25 100 v9 (fun v26 =>
        uI s24 q22 1 (100 - v26) (fun s27 =>
        cR s27 (fL_thrown a0 23 q22 s27) (qI (fun v28 s29 =>
        if v28 = (3 : Int32) then (
          rZ 1 s29)
        else (
          rZ 0 s29)))))))))
      else (
        rZ 0 s19)))))))))
    else (
      nA s12 100 2 (fun q30 s31 =>
      uI s31 q30 0 v9 (fun s32 =>
      uI s32 q30 1 100 (fun s33 =>
      cR s33 (fL_thrown a0 23 q30 s33) (qI (fun v34 s35 =>
      if v34 = (3 : Int32) then (
        rZ 1 s35)
      else (
        rZ 0 s35))))))))))))))))
theorem act_cut (sc : Nat × (Nat → Int32)) (a0 a1 a2 : Nat) (s0 : AS) : fL_act sc a0 a1 a2 s0 = (cV s0 a2 11 (fX17_next sc a2 0 16 s0) (qI (fun v1 s2 => gR s2 a1 13 1 (fun q3 => aI s2 q3 100 1 (fun v4 => cV s2 a2 11 (fX17_next sc a2 0 (v4 - 1) s2) (qI (fun v5 s6 => if (2 : Int32) ≤ v1 then ( if v1 = (2 : Int32) then ( fB2 sc a0 a1 a2 v5 s6) else ( if (5 : Int32) ≤ v1 then ( if v1 = (5 : Int32) then ( fB5 sc a0 a1 a2 v5 s6) else ( if (8 : Int32) ≤ v1 then ( if v1 = (8 : Int32) then ( fB8 sc a0 a1 a2 v5 s6) else ( if v1 = (9 : Int32) then ( fB9 sc a0 a1 a2 v5 s6) else ( if v1 = (10 : Int32) then ( fB10 sc a0 a1 a2 v5 s6) else ( if (13 : Int32) ≤ v1 then ( if v1 = (13 : Int32) then ( fB13 sc a0 a1 a2 v5 s6) else ( if v1 = (14 : Int32) then ( fB14 sc a0 a1 a2 v5 s6) else ( if v1 = (15 : Int32) then ( fB15 sc a0 a1 a2 v5 s6) else ( fB16 sc a0 a1 a2 v5 s6)))) else ( fB11 sc a0 a1 a2 v5 s6))))) else ( fB6 sc a0 a1 a2 v5 s6))) else ( fB3 sc a0 a1 a2 v5 s6))) else ( fB1 sc a0 a1 a2 v5 s6)))))))) := rfl
