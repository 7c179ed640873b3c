/-! NUMBERS AS INTEGERS: an int is ii z; what the worlds' ints are is told by integers. -/
def ii (z : Int) : Int32 := Int32.ofInt z
theorem ii_of (x : Int32) : ii x.toInt = x := Int32.ofInt_toInt x
theorem ii_add (a b : Int) : ii a + ii b = ii (a + b) := (Int32.ofInt_add a b).symm
theorem ii_sub (a b : Int) : ii a - ii b = ii (a - b) := (Int32.ofInt_sub a b).symm
theorem ii_mul (a b : Int) : ii a * ii b = ii (a * b) := (Int32.ofInt_mul a b).symm
theorem ii_neg (a : Int) : -ii a = ii (-a) := Int32.neg_ofInt
theorem ii_ti (z : Int) (h : -2147483648 ≤ z ∧ z < 2147483648) : (ii z).toInt = z := Int32.toInt_ofInt_of_le (by omega) (by omega)
theorem ii_tn (z : Int) (h : 0 ≤ z ∧ z < 2147483648) : (ii z).toNatClampNeg = z.toNat := by
  show (ii z).toInt.toNat = z.toNat
  rw [ii_ti z (by omega)]
theorem ii_le (a b : Int) (h : (-2147483648 ≤ a ∧ a < 2147483648) ∧ (-2147483648 ≤ b ∧ b < 2147483648)) : (ii a ≤ ii b) = (a ≤ b) := by
  apply propext
  rw [Int32.le_iff_toInt_le, ii_ti a h.1, ii_ti b h.2]
theorem ii_lt (a b : Int) (h : (-2147483648 ≤ a ∧ a < 2147483648) ∧ (-2147483648 ≤ b ∧ b < 2147483648)) : (ii a < ii b) = (a < b) := by
  apply propext
  rw [Int32.lt_iff_toInt_lt, ii_ti a h.1, ii_ti b h.2]
theorem ii_eq (a b : Int) (h : (-2147483648 ≤ a ∧ a < 2147483648) ∧ (-2147483648 ≤ b ∧ b < 2147483648)) : (ii a = ii b) = (a = b) := by
  apply propext
  constructor
  · intro q
    have := congrArg Int32.toInt q
    rwa [ii_ti a h.1, ii_ti b h.2] at this
  · intro q
    rw [q]
theorem ii_div (a b : Int) (h : (0 ≤ a ∧ a < 2147483648) ∧ (0 < b ∧ b < 2147483648)) : ii a / ii b = ii (a / b) := by
  apply Int32.toInt_inj.mp
  have hb : ii b ≠ -1 := by
    intro q
    have q2 := congrArg Int32.toInt q
    rw [ii_ti b (by omega)] at q2
    have : (-1 : Int32).toInt = -1 := rfl
    omega
  rw [Int32.toInt_div_of_ne_right _ _ hb, ii_ti a (by omega), ii_ti b (by omega), Int.tdiv_eq_ediv_of_nonneg h.1.1]
  have h1 : 0 ≤ a / b := Int.ediv_nonneg h.1.1 (by omega)
  have h2 : a / b ≤ a := Int.ediv_le_self b h.1.1
  rw [ii_ti (a / b) (by omega)]
theorem ii_ib (z : Int) (n : Nat) (h : (0 ≤ z ∧ z < n) ∧ n ≤ 2147483648) : ax_ib (ii z) n := by
  show ¬ (ii z < 0 ∨ n ≤ (ii z).toNatClampNeg)
  rw [ii_tn z (by omega), show (0 : Int32) = ii 0 from rfl, ii_lt z 0 (by omega)]
  omega
theorem FU_e : ((FU : Nat) : Int) = 100000000 := rfl
theorem il0 : (0 : Int32) = ii 0 := rfl
theorem il1 : (1 : Int32) = ii 1 := rfl
theorem il2 : (2 : Int32) = ii 2 := rfl
theorem il3 : (3 : Int32) = ii 3 := rfl
theorem il4 : (4 : Int32) = ii 4 := rfl
theorem il5 : (5 : Int32) = ii 5 := rfl
theorem il6 : (6 : Int32) = ii 6 := rfl
theorem il7 : (7 : Int32) = ii 7 := rfl
theorem il8 : (8 : Int32) = ii 8 := rfl
theorem il9 : (9 : Int32) = ii 9 := rfl
theorem il10 : (10 : Int32) = ii 10 := rfl
theorem il11 : (11 : Int32) = ii 11 := rfl
theorem il12 : (12 : Int32) = ii 12 := rfl
theorem il15 : (15 : Int32) = ii 15 := rfl
theorem il16 : (16 : Int32) = ii 16 := rfl
theorem il20 : (20 : Int32) = ii 20 := rfl
theorem il24 : (24 : Int32) = ii 24 := rfl
theorem il31 : (31 : Int32) = ii 31 := rfl
theorem il32 : (32 : Int32) = ii 32 := rfl
theorem il44 : (44 : Int32) = ii 44 := rfl
theorem il45 : (45 : Int32) = ii 45 := rfl
theorem il48 : (48 : Int32) = ii 48 := rfl
theorem il50 : (50 : Int32) = ii 50 := rfl
theorem il57 : (57 : Int32) = ii 57 := rfl
theorem il58 : (58 : Int32) = ii 58 := rfl
theorem il59 : (59 : Int32) = ii 59 := rfl
theorem il63 : (63 : Int32) = ii 63 := rfl
theorem il91 : (91 : Int32) = ii 91 := rfl
theorem il93 : (93 : Int32) = ii 93 := rfl
theorem il97 : (97 : Int32) = ii 97 := rfl
theorem il99 : (99 : Int32) = ii 99 := rfl
theorem il100 : (100 : Int32) = ii 100 := rfl
theorem il109 : (109 : Int32) = ii 109 := rfl
theorem il113 : (113 : Int32) = ii 113 := rfl
theorem il119 : (119 : Int32) = ii 119 := rfl
theorem il120 : (120 : Int32) = ii 120 := rfl
theorem il122 : (122 : Int32) = ii 122 := rfl
theorem il200 : (200 : Int32) = ii 200 := rfl
theorem il255 : (255 : Int32) = ii 255 := rfl
theorem il480 : (480 : Int32) = ii 480 := rfl
theorem il500 : (500 : Int32) = ii 500 := rfl
theorem il501 : (501 : Int32) = ii 501 := rfl
theorem il512 : (512 : Int32) = ii 512 := rfl
theorem il999 : (999 : Int32) = ii 999 := rfl
theorem il4112 : (4112 : Int32) = ii 4112 := rfl
theorem il41120 : (41120 : Int32) = ii 41120 := rfl
theorem il1000000 : (1000000 : Int32) = ii 1000000 := rfl
theorem il1000003 : (1000003 : Int32) = ii 1000003 := rfl
theorem il0e : (ii 0 = (0 : Int32)) = True := eq_true rfl
/-- a step of a loop -/
theorem lp {β α : Type} (F : Nat → Int → α → β) (Post : β → Prop) (Inv : Int → α → Prop) (N : Int)
    (hs : ∀ n i s, i < N → Inv i s → Post (F (n + 1) i s) ∨ ∃ s', Inv (i + 1) s' ∧ F (n + 1) i s = F n (i + 1) s') (he : ∀ n s, Inv N s → Post (F (n + 1) N s)) :
    ∀ (n : Nat) (i : Int) (s : α), i ≤ N → Inv i s → N - i < n → Post (F n i s)
  | 0, i, s, h1, _, h3 => by omega
  | n + 1, i, s, h1, h2, h3 => by
    by_cases h : i = N
    · rw [h]; exact he n s (h ▸ h2)
    · rcases hs n i s (by omega) h2 with q | ⟨s', q1, q2⟩
      · exact q
      · rw [q2]; exact lp F Post Inv N hs he n (i + 1) s' (by omega) q1 (by omega)
/-- a loop downwards -/
theorem lpd {β α : Type} (F : Nat → Int → α → β) (Post : β → Prop) (Inv : Int → α → Prop) (N : Int)
    (hs : ∀ n i s, N < i → Inv i s → Post (F (n + 1) i s) ∨ ∃ s', Inv (i - 1) s' ∧ F (n + 1) i s = F n (i - 1) s') (he : ∀ n s, Inv N s → Post (F (n + 1) N s)) :
    ∀ (n : Nat) (i : Int) (s : α), N ≤ i → Inv i s → i - N < n → Post (F n i s)
  | 0, i, s, h1, _, h3 => by omega
  | n + 1, i, s, h1, h2, h3 => by
    by_cases h : i = N
    · rw [h]; exact he n s (h ▸ h2)
    · rcases hs n i s (by omega) h2 with q | ⟨s', q1, q2⟩
      · exact q
      · rw [q2]; exact lpd F Post Inv N hs he n (i - 1) s' (by omega) q1 (by omega)
/-- a loop with a measure -/
theorem lpm {β α : Type} (F : Nat → α → β) (Post : β → Prop) (Inv : α → Prop) (μ : α → Nat)
    (hs : ∀ n s, Inv s → Post (F (n + 1) s) ∨ ∃ s', (Inv s' ∧ μ s' < μ s) ∧ F (n + 1) s = F n s') :
    ∀ (n : Nat) (s : α), Inv s → μ s < n → Post (F n s)
  | 0, s, _, h => by omega
  | n + 1, s, h1, h2 => by
    rcases hs n s h1 with q | ⟨s', q1, q2⟩
    · exact q
    · rw [q2]; exact lpm F Post Inv μ hs n s' q1.1 (by omega)
/-! sums -/
def smN (f : Int → Int) : Nat → Int
  | 0 => 0
  | n + 1 => smN f n + f n
def sm (f : Int → Int) (n : Int) : Int := smN f n.toNat
theorem sm_0 (f : Int → Int) : sm f 0 = 0 := rfl
theorem sm_s (f : Int → Int) (n : Int) (h : 0 ≤ n) : sm f (n + 1) = sm f n + f n := by
  unfold sm
  rw [show (n + 1).toNat = n.toNat + 1 by omega]
  show smN f n.toNat + f (n.toNat : Int) = _
  rw [show ((n.toNat : Nat) : Int) = n by omega]
theorem sm_c (f g : Int → Int) (n : Int) (h : ∀ k, 0 ≤ k → k < n → f k = g k) : sm f n = sm g n := by
  have key : ∀ m : Nat, (m : Int) ≤ n → smN f m = smN g m := by
    intro m
    induction m with
    | zero => intro _; rfl
    | succ m ih =>
      intro hm
      show smN f m + f m = smN g m + g m
      rw [ih (by omega), h m (by omega) (by omega)]
  by_cases hn : 0 ≤ n
  · exact key n.toNat (by omega)
  · unfold sm
    rw [show n.toNat = 0 by omega]
    rfl
theorem sm_ind (f : Int → Int) (P : Int → Int → Prop) (h0 : P 0 0) (n : Int) (hs : ∀ k s, 0 ≤ k → k < n → P k s → P (k + 1) (s + f k)) (hn : 0 ≤ n) : P n (sm f n) := by
  have key : ∀ m : Nat, (m : Int) ≤ n → P m (smN f m) := by
    intro m
    induction m with
    | zero => intro _; exact h0
    | succ m ih =>
      intro hm
      exact hs m _ (by omega) (by omega) (ih (by omega))
  have := key n.toNat (by omega)
  rwa [show ((n.toNat : Nat) : Int) = n by omega] at this
/-! one place of the ints -/
def up (A : Nat → Int → Int) (a : Nat) (z v : Int) : Nat → Int → Int := fun b y => if b = a ∧ y = z then v else A b y
theorem up_s (A : Nat → Int → Int) (a : Nat) (z v : Int) : up A a z v a z = v := if_pos ⟨rfl, rfl⟩
theorem up_n (A : Nat → Int → Int) (a : Nat) (z v : Int) (b : Nat) (y : Int) (h : ¬ (b = a ∧ y = z)) : up A a z v b y = A b y := if_neg h
abbrev IW (A : Nat → Int → Int) : Nat → Nat → Int32 := fun a b => ii (A a (b : Int))
theorem IW_up (A : Nat → Int → Int) (a j : Nat) (v : Int) : ax_up2 (IW A) a j (ii v) = IW (up A a (j : Int) v) := by
  funext b y
  show (if b = a ∧ y = j then ii v else ii (A b y)) = ii (if b = a ∧ (y : Int) = (j : Int) then v else A b y)
  by_cases h : b = a ∧ y = j
  · rw [if_pos h, if_pos ⟨h.1, by omega⟩]
  · rw [if_neg h, if_neg (fun q => h ⟨q.1, by omega⟩)]
/-! THE MODEL'S WORLD -/
def nH : Nat → Nat × Nat := fun a => match a with
  | 0 => (11, 41)
  | 1 => (101, 10)
  | 2 => (100, 10)
  | 3 => (100, 4112)
  | 4 => (100, 4112)
  | 5 => (100, 41120)
  | 6 => (101, 2)
  | 7 => (100, 500)
  | 8 => (100, 4112)
  | 9 => (100, 8)
  | 10 => (100, 10)
  | 11 => (101, 10)
  | 12 => (100, 10)
  | 13 => (100, 5511)
  | 14 => (100, 10)
  | 15 => (100, 501)
  | 16 => (100, 3000)
  | _ => (0, 0)
def nP : Nat → Nat → Option Nat := fun a j => if a = 0 then (match j with
  | 10 => some 1
  | 11 => some 2
  | 12 => some 3
  | 13 => some 4
  | 14 => some 5
  | 16 => some 6
  | 17 => some 7
  | 28 => some 8
  | 29 => some 9
  | 30 => some 10
  | 31 => some 11
  | 33 => some 12
  | 34 => some 13
  | 35 => some 14
  | 38 => some 15
  | 39 => some 16
  | _ => none) else none
abbrev AI : Type := Nat → Int → Int
def NW (K : Nat × Nat) (A : AI) : AS := (IW A, fun _ _ => 0, nP, nH, 17, K.1, K.2)
section NWR
variable {K : Nat × Nat}
theorem nZ {A : AI} (i : Nat) (h : i < 17) : i < ax_z (NW K A) := h
theorem nUp {A : AI} (a : Nat) (z v : Int) (h : 0 ≤ z ∧ z < 2147483648) : ax_setI (NW K A) a (ii z).toNatClampNeg (ii v) = NW K (up A a z v) := by
  unfold ax_setI NW
  rw [ii_tn z h, show (IW A, fun _ _ => (0 : Int64), nP, nH, 17, K.1, K.2).1 = IW A from rfl, IW_up, show ((z.toNat : Nat) : Int) = z by omega]
theorem nAt {A : AI} (a : Nat) (z : Int) (h : 0 ≤ z ∧ z < 2147483648) : ax_I (NW K A) a (ii z).toNatClampNeg = ii (A a z) := by
  rw [ii_tn z h]
  show ii (A a ((z.toNat : Nat) : Int)) = _
  rw [show ((z.toNat : Nat) : Int) = z by omega]
theorem vp_narZ (v : Int) (h : 0 ≤ v ∧ v ≤ 1) : vp_nar .boolean (ii v) = ii v := by
  have h2 : v = 0 ∨ v = 1 := by omega
  rcases h2 with rfl | rfl <;> rfl
theorem nR1 (A : AI) (g : Nat → Option AR) : gR (NW K A) 0 11 10 g = g 1 := rfl
theorem nA1 (A : AI) (z : Int) (g : Int32 → Option AR) (h : 0 ≤ z ∧ z < 10) : aI (NW K A) 1 101 (ii z) g = g (ii (A 1 z)) := (if_pos ⟨nZ _ (by decide), rfl, ii_ib z 10 (by omega)⟩).trans (by rw [nAt _ z (by omega)])
theorem nU1 (A : AI) (z v : Int) (g : AS → Option AR) (h : (0 ≤ z ∧ z < 10) ∧ (0 ≤ v ∧ v ≤ 1)) : uN 101 .boolean (NW K A) 1 (ii z) (ii v) g = g (NW K (up A 1 z v)) := (if_pos ⟨nZ _ (by decide), rfl, ii_ib z 10 (by omega)⟩).trans (by rw [vp_narZ v h.2, nUp 1 z v (by omega)])
theorem nR2 (A : AI) (g : Nat → Option AR) : gR (NW K A) 0 11 11 g = g 2 := rfl
theorem nA2 (A : AI) (z : Int) (g : Int32 → Option AR) (h : 0 ≤ z ∧ z < 10) : aI (NW K A) 2 100 (ii z) g = g (ii (A 2 z)) := (if_pos ⟨nZ _ (by decide), rfl, ii_ib z 10 (by omega)⟩).trans (by rw [nAt _ z (by omega)])
theorem nU2 (A : AI) (z v : Int) (g : AS → Option AR) (h : 0 ≤ z ∧ z < 10) : uI (NW K A) 2 (ii z) (ii v) g = g (NW K (up A 2 z v)) := (if_pos ⟨nZ _ (by decide), rfl, ii_ib z 10 (by omega)⟩).trans (by rw [nUp 2 z v (by omega)])
theorem nR3 (A : AI) (g : Nat → Option AR) : gR (NW K A) 0 11 12 g = g 3 := rfl
theorem nA3 (A : AI) (z : Int) (g : Int32 → Option AR) (h : 0 ≤ z ∧ z < 4112) : aI (NW K A) 3 100 (ii z) g = g (ii (A 3 z)) := (if_pos ⟨nZ _ (by decide), rfl, ii_ib z 4112 (by omega)⟩).trans (by rw [nAt _ z (by omega)])
theorem nU3 (A : AI) (z v : Int) (g : AS → Option AR) (h : 0 ≤ z ∧ z < 4112) : uI (NW K A) 3 (ii z) (ii v) g = g (NW K (up A 3 z v)) := (if_pos ⟨nZ _ (by decide), rfl, ii_ib z 4112 (by omega)⟩).trans (by rw [nUp 3 z v (by omega)])
theorem nR4 (A : AI) (g : Nat → Option AR) : gR (NW K A) 0 11 13 g = g 4 := rfl
theorem nA4 (A : AI) (z : Int) (g : Int32 → Option AR) (h : 0 ≤ z ∧ z < 4112) : aI (NW K A) 4 100 (ii z) g = g (ii (A 4 z)) := (if_pos ⟨nZ _ (by decide), rfl, ii_ib z 4112 (by omega)⟩).trans (by rw [nAt _ z (by omega)])
theorem nU4 (A : AI) (z v : Int) (g : AS → Option AR) (h : 0 ≤ z ∧ z < 4112) : uI (NW K A) 4 (ii z) (ii v) g = g (NW K (up A 4 z v)) := (if_pos ⟨nZ _ (by decide), rfl, ii_ib z 4112 (by omega)⟩).trans (by rw [nUp 4 z v (by omega)])
theorem nR5 (A : AI) (g : Nat → Option AR) : gR (NW K A) 0 11 14 g = g 5 := rfl
theorem nA5 (A : AI) (z : Int) (g : Int32 → Option AR) (h : 0 ≤ z ∧ z < 41120) : aI (NW K A) 5 100 (ii z) g = g (ii (A 5 z)) := (if_pos ⟨nZ _ (by decide), rfl, ii_ib z 41120 (by omega)⟩).trans (by rw [nAt _ z (by omega)])
theorem nU5 (A : AI) (z v : Int) (g : AS → Option AR) (h : 0 ≤ z ∧ z < 41120) : uI (NW K A) 5 (ii z) (ii v) g = g (NW K (up A 5 z v)) := (if_pos ⟨nZ _ (by decide), rfl, ii_ib z 41120 (by omega)⟩).trans (by rw [nUp 5 z v (by omega)])
theorem nR6 (A : AI) (g : Nat → Option AR) : gR (NW K A) 0 11 16 g = g 6 := rfl
theorem nA6 (A : AI) (z : Int) (g : Int32 → Option AR) (h : 0 ≤ z ∧ z < 2) : aI (NW K A) 6 101 (ii z) g = g (ii (A 6 z)) := (if_pos ⟨nZ _ (by decide), rfl, ii_ib z 2 (by omega)⟩).trans (by rw [nAt _ z (by omega)])
theorem nU6 (A : AI) (z v : Int) (g : AS → Option AR) (h : (0 ≤ z ∧ z < 2) ∧ (0 ≤ v ∧ v ≤ 1)) : uN 101 .boolean (NW K A) 6 (ii z) (ii v) g = g (NW K (up A 6 z v)) := (if_pos ⟨nZ _ (by decide), rfl, ii_ib z 2 (by omega)⟩).trans (by rw [vp_narZ v h.2, nUp 6 z v (by omega)])
theorem nR7 (A : AI) (g : Nat → Option AR) : gR (NW K A) 0 11 17 g = g 7 := rfl
theorem nA7 (A : AI) (z : Int) (g : Int32 → Option AR) (h : 0 ≤ z ∧ z < 500) : aI (NW K A) 7 100 (ii z) g = g (ii (A 7 z)) := (if_pos ⟨nZ _ (by decide), rfl, ii_ib z 500 (by omega)⟩).trans (by rw [nAt _ z (by omega)])
theorem nU7 (A : AI) (z v : Int) (g : AS → Option AR) (h : 0 ≤ z ∧ z < 500) : uI (NW K A) 7 (ii z) (ii v) g = g (NW K (up A 7 z v)) := (if_pos ⟨nZ _ (by decide), rfl, ii_ib z 500 (by omega)⟩).trans (by rw [nUp 7 z v (by omega)])
theorem nR8 (A : AI) (g : Nat → Option AR) : gR (NW K A) 0 11 28 g = g 8 := rfl
theorem nA8 (A : AI) (z : Int) (g : Int32 → Option AR) (h : 0 ≤ z ∧ z < 4112) : aI (NW K A) 8 100 (ii z) g = g (ii (A 8 z)) := (if_pos ⟨nZ _ (by decide), rfl, ii_ib z 4112 (by omega)⟩).trans (by rw [nAt _ z (by omega)])
theorem nU8 (A : AI) (z v : Int) (g : AS → Option AR) (h : 0 ≤ z ∧ z < 4112) : uI (NW K A) 8 (ii z) (ii v) g = g (NW K (up A 8 z v)) := (if_pos ⟨nZ _ (by decide), rfl, ii_ib z 4112 (by omega)⟩).trans (by rw [nUp 8 z v (by omega)])
theorem nR9 (A : AI) (g : Nat → Option AR) : gR (NW K A) 0 11 29 g = g 9 := rfl
theorem nA9 (A : AI) (z : Int) (g : Int32 → Option AR) (h : 0 ≤ z ∧ z < 8) : aI (NW K A) 9 100 (ii z) g = g (ii (A 9 z)) := (if_pos ⟨nZ _ (by decide), rfl, ii_ib z 8 (by omega)⟩).trans (by rw [nAt _ z (by omega)])
theorem nU9 (A : AI) (z v : Int) (g : AS → Option AR) (h : 0 ≤ z ∧ z < 8) : uI (NW K A) 9 (ii z) (ii v) g = g (NW K (up A 9 z v)) := (if_pos ⟨nZ _ (by decide), rfl, ii_ib z 8 (by omega)⟩).trans (by rw [nUp 9 z v (by omega)])
theorem nR10 (A : AI) (g : Nat → Option AR) : gR (NW K A) 0 11 30 g = g 10 := rfl
theorem nA10 (A : AI) (z : Int) (g : Int32 → Option AR) (h : 0 ≤ z ∧ z < 10) : aI (NW K A) 10 100 (ii z) g = g (ii (A 10 z)) := (if_pos ⟨nZ _ (by decide), rfl, ii_ib z 10 (by omega)⟩).trans (by rw [nAt _ z (by omega)])
theorem nU10 (A : AI) (z v : Int) (g : AS → Option AR) (h : 0 ≤ z ∧ z < 10) : uI (NW K A) 10 (ii z) (ii v) g = g (NW K (up A 10 z v)) := (if_pos ⟨nZ _ (by decide), rfl, ii_ib z 10 (by omega)⟩).trans (by rw [nUp 10 z v (by omega)])
theorem nR11 (A : AI) (g : Nat → Option AR) : gR (NW K A) 0 11 31 g = g 11 := rfl
theorem nA11 (A : AI) (z : Int) (g : Int32 → Option AR) (h : 0 ≤ z ∧ z < 10) : aI (NW K A) 11 101 (ii z) g = g (ii (A 11 z)) := (if_pos ⟨nZ _ (by decide), rfl, ii_ib z 10 (by omega)⟩).trans (by rw [nAt _ z (by omega)])
theorem nU11 (A : AI) (z v : Int) (g : AS → Option AR) (h : (0 ≤ z ∧ z < 10) ∧ (0 ≤ v ∧ v ≤ 1)) : uN 101 .boolean (NW K A) 11 (ii z) (ii v) g = g (NW K (up A 11 z v)) := (if_pos ⟨nZ _ (by decide), rfl, ii_ib z 10 (by omega)⟩).trans (by rw [vp_narZ v h.2, nUp 11 z v (by omega)])
theorem nR12 (A : AI) (g : Nat → Option AR) : gR (NW K A) 0 11 33 g = g 12 := rfl
theorem nA12 (A : AI) (z : Int) (g : Int32 → Option AR) (h : 0 ≤ z ∧ z < 10) : aI (NW K A) 12 100 (ii z) g = g (ii (A 12 z)) := (if_pos ⟨nZ _ (by decide), rfl, ii_ib z 10 (by omega)⟩).trans (by rw [nAt _ z (by omega)])
theorem nU12 (A : AI) (z v : Int) (g : AS → Option AR) (h : 0 ≤ z ∧ z < 10) : uI (NW K A) 12 (ii z) (ii v) g = g (NW K (up A 12 z v)) := (if_pos ⟨nZ _ (by decide), rfl, ii_ib z 10 (by omega)⟩).trans (by rw [nUp 12 z v (by omega)])
theorem nR13 (A : AI) (g : Nat → Option AR) : gR (NW K A) 0 11 34 g = g 13 := rfl
theorem nA13 (A : AI) (z : Int) (g : Int32 → Option AR) (h : 0 ≤ z ∧ z < 5511) : aI (NW K A) 13 100 (ii z) g = g (ii (A 13 z)) := (if_pos ⟨nZ _ (by decide), rfl, ii_ib z 5511 (by omega)⟩).trans (by rw [nAt _ z (by omega)])
theorem nU13 (A : AI) (z v : Int) (g : AS → Option AR) (h : 0 ≤ z ∧ z < 5511) : uI (NW K A) 13 (ii z) (ii v) g = g (NW K (up A 13 z v)) := (if_pos ⟨nZ _ (by decide), rfl, ii_ib z 5511 (by omega)⟩).trans (by rw [nUp 13 z v (by omega)])
theorem nR14 (A : AI) (g : Nat → Option AR) : gR (NW K A) 0 11 35 g = g 14 := rfl
theorem nA14 (A : AI) (z : Int) (g : Int32 → Option AR) (h : 0 ≤ z ∧ z < 10) : aI (NW K A) 14 100 (ii z) g = g (ii (A 14 z)) := (if_pos ⟨nZ _ (by decide), rfl, ii_ib z 10 (by omega)⟩).trans (by rw [nAt _ z (by omega)])
theorem nU14 (A : AI) (z v : Int) (g : AS → Option AR) (h : 0 ≤ z ∧ z < 10) : uI (NW K A) 14 (ii z) (ii v) g = g (NW K (up A 14 z v)) := (if_pos ⟨nZ _ (by decide), rfl, ii_ib z 10 (by omega)⟩).trans (by rw [nUp 14 z v (by omega)])
theorem nR15 (A : AI) (g : Nat → Option AR) : gR (NW K A) 0 11 38 g = g 15 := rfl
theorem nA15 (A : AI) (z : Int) (g : Int32 → Option AR) (h : 0 ≤ z ∧ z < 501) : aI (NW K A) 15 100 (ii z) g = g (ii (A 15 z)) := (if_pos ⟨nZ _ (by decide), rfl, ii_ib z 501 (by omega)⟩).trans (by rw [nAt _ z (by omega)])
theorem nU15 (A : AI) (z v : Int) (g : AS → Option AR) (h : 0 ≤ z ∧ z < 501) : uI (NW K A) 15 (ii z) (ii v) g = g (NW K (up A 15 z v)) := (if_pos ⟨nZ _ (by decide), rfl, ii_ib z 501 (by omega)⟩).trans (by rw [nUp 15 z v (by omega)])
theorem nR16 (A : AI) (g : Nat → Option AR) : gR (NW K A) 0 11 39 g = g 16 := rfl
theorem nA16 (A : AI) (z : Int) (g : Int32 → Option AR) (h : 0 ≤ z ∧ z < 3000) : aI (NW K A) 16 100 (ii z) g = g (ii (A 16 z)) := (if_pos ⟨nZ _ (by decide), rfl, ii_ib z 3000 (by omega)⟩).trans (by rw [nAt _ z (by omega)])
theorem nU16 (A : AI) (z v : Int) (g : AS → Option AR) (h : 0 ≤ z ∧ z < 3000) : uI (NW K A) 16 (ii z) (ii v) g = g (NW K (up A 16 z v)) := (if_pos ⟨nZ _ (by decide), rfl, ii_ib z 3000 (by omega)⟩).trans (by rw [nUp 16 z v (by omega)])
theorem nI0 (A : AI) (g : Int32 → Option AR) : gI (NW K A) 0 11 0 g = g (ii (A 0 0)) := rfl
theorem nS0 (A : AI) (v : Int) (g : AS → Option AR) : sI (NW K A) 0 11 0 (ii v) g = g (NW K (up A 0 0 v)) := (if_pos ⟨nZ _ (by decide), rfl⟩).trans (by rw [show ax_setI (NW K A) 0 0 (ii v) = NW K (up A 0 0 v) from nUp 0 0 v (by omega)])
theorem nI1 (A : AI) (g : Int32 → Option AR) : gI (NW K A) 0 11 1 g = g (ii (A 0 1)) := rfl
theorem nS1 (A : AI) (v : Int) (g : AS → Option AR) : sI (NW K A) 0 11 1 (ii v) g = g (NW K (up A 0 1 v)) := (if_pos ⟨nZ _ (by decide), rfl⟩).trans (by rw [show ax_setI (NW K A) 0 1 (ii v) = NW K (up A 0 1 v) from nUp 0 1 v (by omega)])
theorem nI2 (A : AI) (g : Int32 → Option AR) : gI (NW K A) 0 11 2 g = g (ii (A 0 2)) := rfl
theorem nS2 (A : AI) (v : Int) (g : AS → Option AR) : sI (NW K A) 0 11 2 (ii v) g = g (NW K (up A 0 2 v)) := (if_pos ⟨nZ _ (by decide), rfl⟩).trans (by rw [show ax_setI (NW K A) 0 2 (ii v) = NW K (up A 0 2 v) from nUp 0 2 v (by omega)])
theorem nI3 (A : AI) (g : Int32 → Option AR) : gI (NW K A) 0 11 3 g = g (ii (A 0 3)) := rfl
theorem nS3 (A : AI) (v : Int) (g : AS → Option AR) : sI (NW K A) 0 11 3 (ii v) g = g (NW K (up A 0 3 v)) := (if_pos ⟨nZ _ (by decide), rfl⟩).trans (by rw [show ax_setI (NW K A) 0 3 (ii v) = NW K (up A 0 3 v) from nUp 0 3 v (by omega)])
theorem nI4 (A : AI) (g : Int32 → Option AR) : gI (NW K A) 0 11 4 g = g (ii (A 0 4)) := rfl
theorem nS4 (A : AI) (v : Int) (g : AS → Option AR) : sI (NW K A) 0 11 4 (ii v) g = g (NW K (up A 0 4 v)) := (if_pos ⟨nZ _ (by decide), rfl⟩).trans (by rw [show ax_setI (NW K A) 0 4 (ii v) = NW K (up A 0 4 v) from nUp 0 4 v (by omega)])
theorem nI5 (A : AI) (g : Int32 → Option AR) : gI (NW K A) 0 11 5 g = g (ii (A 0 5)) := rfl
theorem nS5 (A : AI) (v : Int) (g : AS → Option AR) : sI (NW K A) 0 11 5 (ii v) g = g (NW K (up A 0 5 v)) := (if_pos ⟨nZ _ (by decide), rfl⟩).trans (by rw [show ax_setI (NW K A) 0 5 (ii v) = NW K (up A 0 5 v) from nUp 0 5 v (by omega)])
theorem nI6 (A : AI) (g : Int32 → Option AR) : gI (NW K A) 0 11 6 g = g (ii (A 0 6)) := rfl
theorem nS6 (A : AI) (v : Int) (g : AS → Option AR) : sI (NW K A) 0 11 6 (ii v) g = g (NW K (up A 0 6 v)) := (if_pos ⟨nZ _ (by decide), rfl⟩).trans (by rw [show ax_setI (NW K A) 0 6 (ii v) = NW K (up A 0 6 v) from nUp 0 6 v (by omega)])
theorem nI7 (A : AI) (g : Int32 → Option AR) : gI (NW K A) 0 11 7 g = g (ii (A 0 7)) := rfl
theorem nS7 (A : AI) (v : Int) (g : AS → Option AR) : sI (NW K A) 0 11 7 (ii v) g = g (NW K (up A 0 7 v)) := (if_pos ⟨nZ _ (by decide), rfl⟩).trans (by rw [show ax_setI (NW K A) 0 7 (ii v) = NW K (up A 0 7 v) from nUp 0 7 v (by omega)])
theorem nI8 (A : AI) (g : Int32 → Option AR) : gI (NW K A) 0 11 8 g = g (ii (A 0 8)) := rfl
theorem nS8 (A : AI) (v : Int) (g : AS → Option AR) : sI (NW K A) 0 11 8 (ii v) g = g (NW K (up A 0 8 v)) := (if_pos ⟨nZ _ (by decide), rfl⟩).trans (by rw [show ax_setI (NW K A) 0 8 (ii v) = NW K (up A 0 8 v) from nUp 0 8 v (by omega)])
theorem nI9 (A : AI) (g : Int32 → Option AR) : gI (NW K A) 0 11 9 g = g (ii (A 0 9)) := rfl
theorem nS9 (A : AI) (v : Int) (g : AS → Option AR) : sI (NW K A) 0 11 9 (ii v) g = g (NW K (up A 0 9 v)) := (if_pos ⟨nZ _ (by decide), rfl⟩).trans (by rw [show ax_setI (NW K A) 0 9 (ii v) = NW K (up A 0 9 v) from nUp 0 9 v (by omega)])
theorem nI15 (A : AI) (g : Int32 → Option AR) : gI (NW K A) 0 11 15 g = g (ii (A 0 15)) := rfl
theorem nS15 (A : AI) (v : Int) (g : AS → Option AR) : sI (NW K A) 0 11 15 (ii v) g = g (NW K (up A 0 15 v)) := (if_pos ⟨nZ _ (by decide), rfl⟩).trans (by rw [show ax_setI (NW K A) 0 15 (ii v) = NW K (up A 0 15 v) from nUp 0 15 v (by omega)])
theorem nI18 (A : AI) (g : Int32 → Option AR) : gI (NW K A) 0 11 18 g = g (ii (A 0 18)) := rfl
theorem nS18 (A : AI) (v : Int) (g : AS → Option AR) : sI (NW K A) 0 11 18 (ii v) g = g (NW K (up A 0 18 v)) := (if_pos ⟨nZ _ (by decide), rfl⟩).trans (by rw [show ax_setI (NW K A) 0 18 (ii v) = NW K (up A 0 18 v) from nUp 0 18 v (by omega)])
theorem nI19 (A : AI) (g : Int32 → Option AR) : gI (NW K A) 0 11 19 g = g (ii (A 0 19)) := rfl
theorem nS19 (A : AI) (v : Int) (g : AS → Option AR) : sI (NW K A) 0 11 19 (ii v) g = g (NW K (up A 0 19 v)) := (if_pos ⟨nZ _ (by decide), rfl⟩).trans (by rw [show ax_setI (NW K A) 0 19 (ii v) = NW K (up A 0 19 v) from nUp 0 19 v (by omega)])
theorem nI20 (A : AI) (g : Int32 → Option AR) : gI (NW K A) 0 11 20 g = g (ii (A 0 20)) := rfl
theorem nS20 (A : AI) (v : Int) (g : AS → Option AR) : sI (NW K A) 0 11 20 (ii v) g = g (NW K (up A 0 20 v)) := (if_pos ⟨nZ _ (by decide), rfl⟩).trans (by rw [show ax_setI (NW K A) 0 20 (ii v) = NW K (up A 0 20 v) from nUp 0 20 v (by omega)])
theorem nI21 (A : AI) (g : Int32 → Option AR) : gI (NW K A) 0 11 21 g = g (ii (A 0 21)) := rfl
theorem nS21 (A : AI) (v : Int) (g : AS → Option AR) : sI (NW K A) 0 11 21 (ii v) g = g (NW K (up A 0 21 v)) := (if_pos ⟨nZ _ (by decide), rfl⟩).trans (by rw [show ax_setI (NW K A) 0 21 (ii v) = NW K (up A 0 21 v) from nUp 0 21 v (by omega)])
theorem nI22 (A : AI) (g : Int32 → Option AR) : gI (NW K A) 0 11 22 g = g (ii (A 0 22)) := rfl
theorem nS22 (A : AI) (v : Int) (g : AS → Option AR) : sI (NW K A) 0 11 22 (ii v) g = g (NW K (up A 0 22 v)) := (if_pos ⟨nZ _ (by decide), rfl⟩).trans (by rw [show ax_setI (NW K A) 0 22 (ii v) = NW K (up A 0 22 v) from nUp 0 22 v (by omega)])
theorem nI23 (A : AI) (g : Int32 → Option AR) : gI (NW K A) 0 11 23 g = g (ii (A 0 23)) := rfl
theorem nS23 (A : AI) (v : Int) (g : AS → Option AR) : sI (NW K A) 0 11 23 (ii v) g = g (NW K (up A 0 23 v)) := (if_pos ⟨nZ _ (by decide), rfl⟩).trans (by rw [show ax_setI (NW K A) 0 23 (ii v) = NW K (up A 0 23 v) from nUp 0 23 v (by omega)])
theorem nI24 (A : AI) (g : Int32 → Option AR) : gI (NW K A) 0 11 24 g = g (ii (A 0 24)) := rfl
theorem nS24 (A : AI) (v : Int) (g : AS → Option AR) : sI (NW K A) 0 11 24 (ii v) g = g (NW K (up A 0 24 v)) := (if_pos ⟨nZ _ (by decide), rfl⟩).trans (by rw [show ax_setI (NW K A) 0 24 (ii v) = NW K (up A 0 24 v) from nUp 0 24 v (by omega)])
theorem nI25 (A : AI) (g : Int32 → Option AR) : gI (NW K A) 0 11 25 g = g (ii (A 0 25)) := rfl
theorem nS25 (A : AI) (v : Int) (g : AS → Option AR) : sI (NW K A) 0 11 25 (ii v) g = g (NW K (up A 0 25 v)) := (if_pos ⟨nZ _ (by decide), rfl⟩).trans (by rw [show ax_setI (NW K A) 0 25 (ii v) = NW K (up A 0 25 v) from nUp 0 25 v (by omega)])
theorem nI26 (A : AI) (g : Int32 → Option AR) : gI (NW K A) 0 11 26 g = g (ii (A 0 26)) := rfl
theorem nS26 (A : AI) (v : Int) (g : AS → Option AR) : sI (NW K A) 0 11 26 (ii v) g = g (NW K (up A 0 26 v)) := (if_pos ⟨nZ _ (by decide), rfl⟩).trans (by rw [show ax_setI (NW K A) 0 26 (ii v) = NW K (up A 0 26 v) from nUp 0 26 v (by omega)])
theorem nI27 (A : AI) (g : Int32 → Option AR) : gI (NW K A) 0 11 27 g = g (ii (A 0 27)) := rfl
theorem nS27 (A : AI) (v : Int) (g : AS → Option AR) : sI (NW K A) 0 11 27 (ii v) g = g (NW K (up A 0 27 v)) := (if_pos ⟨nZ _ (by decide), rfl⟩).trans (by rw [show ax_setI (NW K A) 0 27 (ii v) = NW K (up A 0 27 v) from nUp 0 27 v (by omega)])
theorem nI32 (A : AI) (g : Int32 → Option AR) : gI (NW K A) 0 11 32 g = g (ii (A 0 32)) := rfl
theorem nS32 (A : AI) (v : Int) (g : AS → Option AR) : sI (NW K A) 0 11 32 (ii v) g = g (NW K (up A 0 32 v)) := (if_pos ⟨nZ _ (by decide), rfl⟩).trans (by rw [show ax_setI (NW K A) 0 32 (ii v) = NW K (up A 0 32 v) from nUp 0 32 v (by omega)])
theorem nI36 (A : AI) (g : Int32 → Option AR) : gI (NW K A) 0 11 36 g = g (ii (A 0 36)) := rfl
theorem nS36 (A : AI) (v : Int) (g : AS → Option AR) : sI (NW K A) 0 11 36 (ii v) g = g (NW K (up A 0 36 v)) := (if_pos ⟨nZ _ (by decide), rfl⟩).trans (by rw [show ax_setI (NW K A) 0 36 (ii v) = NW K (up A 0 36 v) from nUp 0 36 v (by omega)])
theorem nI37 (A : AI) (g : Int32 → Option AR) : gI (NW K A) 0 11 37 g = g (ii (A 0 37)) := rfl
theorem nS37 (A : AI) (v : Int) (g : AS → Option AR) : sI (NW K A) 0 11 37 (ii v) g = g (NW K (up A 0 37 v)) := (if_pos ⟨nZ _ (by decide), rfl⟩).trans (by rw [show ax_setI (NW K A) 0 37 (ii v) = NW K (up A 0 37 v) from nUp 0 37 v (by omega)])
theorem nI40 (A : AI) (g : Int32 → Option AR) : gI (NW K A) 0 11 40 g = g (ii (A 0 40)) := rfl
theorem nS40 (A : AI) (v : Int) (g : AS → Option AR) : sI (NW K A) 0 11 40 (ii v) g = g (NW K (up A 0 40 v)) := (if_pos ⟨nZ _ (by decide), rfl⟩).trans (by rw [show ax_setI (NW K A) 0 40 (ii v) = NW K (up A 0 40 v) from nUp 0 40 v (by omega)])
theorem nSZ1 (A : AI) (v : Int) (g : AS → Option AR) (h : 0 ≤ v ∧ v ≤ 1) : sZ (NW K A) 0 11 1 (ii v) g = g (NW K (up A 0 1 v)) := (if_pos ⟨⟨nZ _ (by decide), rfl⟩, by rcases (show v = 0 ∨ v = 1 by omega) with rfl | rfl; exact Or.inl rfl; exact Or.inr rfl⟩).trans (by rw [show ax_setI (NW K A) 0 1 (ii v) = NW K (up A 0 1 v) from nUp 0 1 v (by omega)])
theorem nV (A : AI) (x : Option AR) (g : Option Value → AS → Option AR) : cV (NW K A) 0 11 x g = cS (NW K A) x g := rfl
theorem nC (A A1 : AI) (v : Option Value) (g : Option Value → AS → Option AR) : cS (NW K A) (some (.inl v, NW K A1)) g = g v (NW K A1) := by
  show (if ax_le (NW K A) (NW K A1) then g v (NW K A1) else none) = _
  exact if_pos ⟨Nat.le_refl _, Nat.le_refl _, Nat.le_refl _⟩
theorem q_I (g : Int32 → AS → Option AR) (i : Int32) (τ : AS) : qI g (some (.int i)) τ = g i τ := rfl
theorem q_V (g : AS → Option AR) (τ : AS) : qV g none τ = g τ := rfl
theorem q_R (g : Nat → AS → Option AR) (i : Nat) (τ : AS) : qR g (some (.ref i)) τ = g i τ := rfl
theorem lt_q (x : Int32) (g : Int32 → Option AR) : lt x g = g x := rfl
theorem rZ_q (v : Int) (σ : AS) (h : 0 ≤ v ∧ v ≤ 1) : rZ (ii v) σ = some (.inl (some (.int (ii v))), σ) := by
  rcases (show v = 0 ∨ v = 1 by omega) with rfl | rfl
  · exact if_pos (Or.inl rfl)
  · exact if_pos (Or.inr rfl)
end NWR
theorem md_M (a : Int) : a - a / 1000003 * 1000003 = a % 1000003 := by omega
theorem md_16 (a : Int) : a - a / 16 * 16 = a % 16 := by omega
theorem md_4 (a : Int) : a - a / 4 * 4 = a % 4 := by omega
theorem md_8 (a : Int) : a - a / 8 * 8 = a % 8 := by omega
theorem md_10 (a : Int) : a - a / 10 * 10 = a % 10 := by omega
