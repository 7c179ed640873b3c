/-! THE LAW'S TEXT: its lines, as the class reads them -/
/-- settings and kinds, rows, the next row that may be told -/
abbrev CT : Type := AI × (Int → Int) × Int
/-- a line: 0 wood, 1 metal, 2 a row; its first number, the others -/
abbrev Ln : Type := Int × Int × List Int
def lnW (l : Ln) : Nat := if l.1 = 2 then 1000030 else if l.1 = 0 then 1000028 else 1000029
def lnT (l : Ln) : List Tok := (3, 0) :: (1, (lnW l : Int)) :: (2, l.2.1) :: l.2.2.map (fun v => (2, v))
def lnTs : List Ln → List Tok
  | [] => []
  | l :: ls => lnT l ++ lnTs ls
def kM (M : AI) (m L : Int) : AI := up (up (up M 1 (M 0 9) m) 2 (M 0 9) L) 0 9 (M 0 9 + 1)
def blOK (M : AI) (r : Int) : (Int → Int) → List Int → (Int → Int) → Prop
  | g, [], g' => g' = g
  | g, v :: vs, g' => ((1 ≤ v ∧ v ≤ 200) ∧ v ≤ gapM M g r ∧ cel g r 0 < 6) ∧ blOK M r (gAdds g r v) vs g'
def lnOK (s : CT) (l : Ln) (s' : CT) : Prop :=
  (l.1 = 2 ∧ (s.2.2 ≤ l.2.1 ∧ 0 ≤ l.2.1 ∧ l.2.1 < s.1 0 3) ∧ cel s.2.1 l.2.1 0 = 0 ∧ s'.1 = s.1 ∧ s'.2.2 = l.2.1 + 1 ∧ blOK s.1 l.2.1 s.2.1 l.2.2 s'.2.1) ∨
  ((l.1 = 0 ∨ l.1 = 1) ∧ ∃ v, l.2.2 = [v] ∧ ((1 ≤ l.2.1 ∧ l.2.1 ≤ 99) ∧ 0 ≤ v ∧ v ≤ 99) ∧ s.1 0 9 < 4 ∧ (∀ j, 0 ≤ j → j < s.1 0 9 → ¬ (s.1 1 j = l.1 ∧ s.1 2 j = l.2.1)) ∧ s' = (kM s.1 l.1 l.2.1, gu s.2.1 (6 + s.1 0 9) v, s.2.2))
def Pth : CT → List Ln → CT → Prop
  | s, [], s' => s' = s
  | s, l :: ls, s' => ∃ s1, lnOK s l s1 ∧ Pth s1 ls s'
theorem Pth.snoc {l : Ln} {s1 s2 : CT} : ∀ {ls : List Ln} {s : CT}, Pth s ls s1 → lnOK s1 l s2 → Pth s (ls ++ [l]) s2
  | [], s, h, k => by
    have h : s1 = s := h
    subst h
    exact ⟨s2, k, rfl⟩
  | x :: ls, s, h, k => by
    obtain ⟨u, h1, h2⟩ := h
    exact ⟨u, h1, h2.snoc k⟩
theorem blOK.snoc {M : AI} {r v : Int} {g1 : Int → Int} : ∀ {vs : List Int} {g : Int → Int}, blOK M r g vs g1 → ((1 ≤ v ∧ v ≤ 200) ∧ v ≤ gapM M g1 r ∧ cel g1 r 0 < 6) → blOK M r g (vs ++ [v]) (gAdds g1 r v)
  | [], g, h, k => by
    have h : g1 = g := h
    subst h
    exact ⟨k, rfl⟩
  | x :: vs, g, h, k => ⟨h.1, h.2.snoc k⟩
theorem lnTs_snoc (l : Ln) : ∀ ls : List Ln, lnTs (ls ++ [l]) = lnTs ls ++ lnT l
  | [] => by show lnT l ++ [] = [] ++ lnT l; rw [List.append_nil]; rfl
  | x :: ls => by
    show lnT x ++ lnTs (ls ++ [l]) = (lnT x ++ lnTs ls) ++ lnT l
    rw [lnTs_snoc l ls, List.append_assoc]
theorem fdN_s (met len : Int → Int) (m L : Int) : ∀ (k : Nat) (i : Int), 0 ≤ i → fdN met len m L i k ≠ -1 → met (fdN met len m L i k) = m ∧ len (fdN met len m L i k) = L
  | 0, i, _, h => absurd rfl h
  | k + 1, i, hi, h => by
    by_cases q : met i = m ∧ len i = L
    · have e : fdN met len m L i (k + 1) = i := if_pos q
      rw [e]
      exact q
    · have e : fdN met len m L i (k + 1) = fdN met len m L (i + 1) k := if_neg q
      rw [e] at h ⊢
      exact fdN_s met len m L k (i + 1) (by omega) h
section RDL
variable {c : CC} {A A' : AI} {J : JI} {b : Int → Int} {n : Int} {t : Tok} {ts : List Tok} {v : Int} {M : AI} {g : Int → Int} {sp : Nat}
theorem LdS.fa (h : LdS A J M g sp) (hsp : sp = 377 ∨ sp = 381) (hA : FAr A A') : LdS A' J M g sp := h.fr hsp hA (FMr.refl M)
/-- told yet? -/
abbrev TdI (A : AI) (nr : Int) : Prop := ∀ r, nr ≤ r → 0 ≤ r → r < 8 → A (1 + 2) r = 0
theorem TdI.fa {nr : Int} (h : TdI A nr) (hA : FAr A A') : TdI A' nr := fun r a x y => by rw [hA _ _ (by omega)]; exact h r a x y
theorem w_lens : wlen 1000028 = 4 ∧ wlen 1000029 = 5 ∧ wlen 1000030 = 3 ∧ wlen 1000026 = 5 ∧ wlen 1000027 = 5 := by decide +kernel
/-- a line of a kind -/
theorem rd_kind (hRd : isReader c 1) (hS : isState c 338) (hPl : isPlan c sp) (hsp : sp = 377 ∨ sp = 381) (m L v : Int) (hm : m = 0 ∨ m = 1) (hL0 : (1 ≤ L ∧ L ≤ 99) ∧ 0 ≤ v ∧ v ≤ 99) (h9 : M 0 9 < 4) (hno : ∀ j, 0 ≤ j → j < M 0 9 → ¬ (M 1 j = m ∧ M 2 j = L)) (hL : LdS A J M g sp) {x : Int} (hC : Cur A b n ((1, x) :: (2, L) :: (2, v) :: ts)) : ∃ A', fX2_readKind 1 (ii m) sp 338 (CW c A J) = some (Sum.inl none, CW c A' J) ∧ Cur A' b n ts ∧ LdS A' J (kM M m L) (gu g (6 + M 0 9) v) sp ∧ FL sp A A' ∧ A' (1 + 2) = A (1 + 2) := by
  have hn9 := hL.1.1.2.2.2.2.2.2.2
  have x7 : A sp 7 = M 0 9 := hL.2.1.1.2.2.2.2.2.2.2
  obtain ⟨A1, a1, hC1, f1⟩ := hC.adv (J := J) hRd
  have hL1 := hL.fa hsp f1
  obtain ⟨A2, a2, hC2, f2⟩ := hC1.num (J := J) hRd 1 99 (by omega) hL0.1
  have hL2 := hL1.fa hsp f2
  obtain ⟨A3, a3, hC3, f3⟩ := hC2.num (J := J) hRd 0 99 (by omega) hL0.2
  have hL3 := hL2.fa hsp f3
  have hfi := c_find (c := c) (A := A2) (J := J) hPl (M 0 9) m L (M 1) (M 2) (by omega) hL2.2.1.1.2.2.2.2.2.2.2 (fun k a b => ⟨hL2.2.1.2.1 k a b, hL2.1.2.1 k a (by omega), hL2.1.2.2.1 k a (by omega)⟩) (by omega) (by omega)
  have hfv : fdN (M 1) (M 2) m L 0 (M 0 9).toNat = -1 := by
    rcases fdN_b (M 1) (M 2) m L (M 0 9).toNat 0 (by omega) with y | y
    · exact y.1
    · exact absurd (fdN_s (M 1) (M 2) m L (M 0 9).toNat 0 (by omega) (by omega)) (hno _ y.1 (by omega))
  rw [hfv] at hfi
  have e73 : A3 sp 7 = M 0 9 := hL3.2.1.1.2.2.2.2.2.2.2
  have hpk := hL3.2.1.2
  have up1 : up A3 (338 + 2) (M 0 9) v (sp + 1) = A3 (sp + 1) := funext fun z => up_n _ _ _ _ _ _ (by omega)
  have up2 : up A3 (338 + 2) (M 0 9) v (sp + 2) = A3 (sp + 2) := funext fun z => up_n _ _ _ _ _ _ (by omega)
  have up3 : up A3 (338 + 2) (M 0 9) v (sp + 3) = A3 (sp + 3) := funext fun z => up_n _ _ _ _ _ _ (by omega)
  have up7 : up A3 (338 + 2) (M 0 9) v sp 7 = M 0 9 := by rw [up_n _ _ _ _ _ _ (by omega)]; exact e73
  obtain ⟨A4, a5, oo, n7, nk, f4⟩ := c_addKind (c := c) (A := up A3 (338 + 2) (M 0 9) v) (J := J) (n := M 0 9) hPl (by omega) up7 m L ⟨by omega, by omega⟩
    (fun k a b => by rw [up1, up2, (hpk.1 k a b).1, (hpk.1 k a b).2]; exact ⟨hL3.1.2.1 k a (by omega), hL3.1.2.2.1 k a (by omega)⟩)
    (fun k a b => by rw [up1, up2, (hpk.1 k a b).1, (hpk.1 k a b).2]; exact hno k a b)
    (by rw [up1, up2, up3]; exact ord_cg hpk.2 (fun k a b => hpk.1 k a b))
  have f5 : ∀ (b : Nat) (z : Int), ¬ (b = sp ∧ z = 7) → ¬ (b = sp + 1 ∧ z = M 0 9) → ¬ (b = sp + 2 ∧ z = M 0 9) → b ≠ sp + 3 → ¬ (b = 338 + 2 ∧ z = M 0 9) → A4 b z = A3 b z := fun b z p q r s t => by
    rw [f4 b z p q r s, up_n _ _ _ _ _ _ t]
  have u0 : ∀ z, z ≠ 9 → kM M m L 0 z = M 0 z := fun z q => by
    unfold kM
    rw [up_n _ _ _ _ _ _ (by omega), up_n _ _ _ _ _ _ (by omega), up_n _ _ _ _ _ _ (by omega)]
  have f13 := (f1.trans f2).trans f3
  refine ⟨A4, ?_, ?_, ?_, fun b z p q r s => ?_, funext fun z => ?_⟩
  · have hKR : fX2_readKind 1 (ii m) sp 338 (CW c A J) = KR c J sp m A1 := by
      rw [fX2_readKind, plI7 hPl, x7, il10, if_pos (by rw [ii_lt _ _ (by omega)]; omega), rdV hRd, a1, k_C, q_V, rdI7 hRd, rdV hRd, il1, il3, il99, ii_neg]
      rfl
    rw [hKR, KR_1 hRd hPl m L a2 hfi, fX2_readKind_56, il0, il99, rdV hRd, a3, k_C, q_I, rdI3 hRd, if_pos (by rw [hC3.e.1]), stR1 hS, plI7 hPl, e73, stU2 hS _ _ _ (by omega), plV hPl, a5, k_C, q_V]
  · exact hC3.fr (fun z x y => f5 1 z (by omega) (by omega) (by omega) (by omega) (by omega)) (fun z => f5 (1 + 1) z (by omega) (by omega) (by omega) (by omega) (by omega))
  · exact LdS.kind (A' := A4) (M' := kM M m L) hL3 hsp (M 0 9) m L v ⟨rfl, by omega⟩ ⟨by omega, hL0.1, hL0.2⟩ (up_s _ _ _ _) (fun z a b => u0 z (by omega))
      (fun k a b => by
        unfold kM
        rw [up_n _ _ _ _ _ _ (by omega), up_n _ _ _ _ _ _ (by omega)]
        by_cases y : k = M 0 9
        · rw [if_pos y, y, up_s]
        · rw [if_neg y, up_n _ _ _ _ _ _ (by omega)])
      (fun k a b => by
        unfold kM
        rw [up_n _ _ _ _ _ _ (by omega)]
        by_cases y : k = M 0 9
        · rw [if_pos y, y, up_s]
        · rw [if_neg y, up_n _ _ _ _ _ _ (by omega), up_n _ _ _ _ _ _ (by omega)])
      (fun b z y => f5 b z (by unfold inS at y; omega) (by unfold inS at y; omega) (by unfold inS at y; omega) (by unfold inS at y; omega) (by omega))
      (by rw [f4 _ _ (by omega) (by omega) (by omega) (by omega), up_s]) oo n7 nk
      (fun k a b => ⟨f5 _ _ (by omega) (by omega) (by omega) (by omega) (by omega), f5 _ _ (by omega) (by omega) (by omega) (by omega) (by omega)⟩)
  · have i340 : inS 338 (338 + 2) := by unfold inS; omega
    rw [f5 b z (by omega) (by omega) (by omega) (by omega) (fun y => s (by rw [y.1]; exact i340)), f13 b z (by omega)]
  · rw [f5 _ _ (by omega) (by omega) (by omega) (by omega) (by omega), f13 _ _ (by omega)]
/-- a row's blocks -/
theorem rd_rloop (hRd : isReader c 1) (hS : isState c 338) (hPl : isPlan c sp) (hsp : sp = 377 ∨ sp = 381) (r : Int) (hr : 0 ≤ r ∧ r < M 0 3) (hts : ∀ t us, ts = t :: us → t.1 ≠ 2) {g' : Int → Int} : ∀ (vs : List Int) (f : Nat) (x : Int) (g : Int → Int) (A : AI), vs.length < f → x = cel g r 0 → blOK M r g vs g' → LdS A J M g sp → Cur A b n (vs.map (fun v => (2, v)) ++ ts) → ∃ A', fX2_readRow_67 f 1 sp (rc 338 r) (ii x) (CW c A J) = some (Sum.inl none, CW c A' J) ∧ Cur A' b n ts ∧ LdS A' J M g' sp ∧ FL sp A A' ∧ A' (1 + 2) = A (1 + 2)
  | vs, 0, x, g, A, hf, hx, hb, hL, hC => by omega
  | [], f + 1, x, g, A, hf, hx, hb, hL, hC => by
    have h38 := hL.1.1.2.1
    have hb : g' = g := hb
    have hC : Cur A b n ts := hC
    have b0 := (hL.2.2.2.1.1.1 r hr.1 (by omega)).1
    have k6 : A 1 6 ≠ 2 ∧ 0 ≤ A 1 6 ∧ A 1 6 ≤ 4 := by
      cases hts2 : ts with
      | nil =>
        rw [hts2] at hC
        have := hC.k0
        omega
      | cons t us =>
        rw [hts2] at hC
        have h1 := hC.k
        have h2 := hts t us hts2
        obtain ⟨-, -, p, -, -, -, -, -, ht, -⟩ := hC
        have := ht.1
        omega
    refine ⟨A, c_rlT hRd f x (by omega) hC.e.1 k6.1 k6.2, hC, by rw [hb]; exact hL, fun _ _ _ _ _ _ => rfl, rfl⟩
  | v :: vs, f + 1, x, g, A, hf, hx, hb, hL, hC => by
    have h38 := hL.1.1.2.1
    obtain ⟨⟨hv, hgp, h6⟩, hb2⟩ := hb
    have hC : Cur A b n ((2, v) :: (vs.map (fun v => (2, v)) ++ ts)) := hC
    have b0 := (hL.2.2.2.1.1.1 r hr.1 (by omega)).1
    obtain ⟨A2, a2, hC2, f2⟩ := hC.num (J := J) hRd 1 200 (by omega) hv
    have hL2 := hL.fa hsp f2
    obtain ⟨A3, a3, hL3, f3⟩ := hL2.adds (c := c) hsp hS r v hr ⟨hv, hgp⟩ h6
    have hgl := gap_l (c := c) hL2 hS hPl r ⟨hr.1, by omega⟩
    have hgb := gapM_b hL.1 (hL.2.2.2.1.1.1 r hr.1 (by omega))
    have e1 : A2 (rc 338 r) 1 = x := ((hL2.2.2.1.2 r hr.1 (by omega)).1.1).trans hx.symm
    have n338 : ∀ b : Nat, (b < 338 ∨ 373 ≤ b) → ¬ inS 338 b := fun b hb x => by unfold inS at x; omega
    have hC3 : Cur A3 b n (vs.map (fun v => (2, v)) ++ ts) := hC2.fr (fun z _ _ => f3.1 1 z (n338 1 (by omega))) (fun z => f3.1 (1 + 1) z (n338 _ (by omega)))
    have b0' : cel (gAdds g r v) r 0 = cel g r 0 + 1 := by rw [cel_gAdds _ _ _ _ _ ⟨⟨⟨hr.1, hr.1⟩, by omega⟩, b0⟩, if_pos ⟨rfl, rfl⟩]
    obtain ⟨A4, a4, hC4, hL4, f4, t4⟩ := rd_rloop hRd hS hPl hsp r hr hts vs f (x + 1) (gAdds g r v) A3 (by have : vs.length + 1 < f + 1 := hf; omega) (by omega) hb2 hL3 hC3
    refine ⟨A4, ?_, hC4, hL4, (f2.fl.trans (fun b z p q r s => f3.1 b z s)).trans f4, ?_⟩
    · rw [← a4]
      exact c_rlO hRd (hS.row r ⟨hr.1, by omega⟩) f x v (gapM M g r) (by omega) hC.e.1 hC.k a2 hv hC2.e.1 e1 hgl (by omega) hgp a3
    · rw [t4]
      exact funext fun z => (f3.1 _ z (n338 _ (by omega))).trans (f2 _ _ (by omega))
end RDL
