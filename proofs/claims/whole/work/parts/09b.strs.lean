/-- a String constant that is read: how long, a sign of it -/
def sL (w : Nat) (g : Int32 → Option AR) : Option AR := if 1000026 ≤ w ∧ w < 1000036 then g (Int32.ofNat (ax_byt (w - 1000000)).length) else none
def sC (w : Nat) (i : Int32) (g : Int32 → Option AR) : Option AR := if (1000026 ≤ w ∧ w < 1000036) ∧ ax_ib i (ax_byt (w - 1000000)).length then g ((ax_byt (w - 1000000)).getD i.toNatClampNeg 0) else none
section OKS
variable {Γ : CX} {cc : ByteArray} {own : String} {ret : Option FieldType} {pc : Nat} {lv : List (Nat × Value)} {st : List Value} {σ : AS} {f : Option AR}
theorem ok_strLen (C : OKC Γ cc own ret) {w index : Nat} (hw : 3 < cx_fr Γ ∧ (st.map fun v => v.category).sum + 200 ≤ cx_lo Γ) (L : Cond.methodLink own index yJ0_length_8abf5 ∈ ax_ALL) (hdg : decode cc pc = .ok (.invokevirtual index, 3)) {g : Int32 → Option AR} (k : ∀ v, OK Γ (pc + 3) lv (.int v :: st) (g v) σ) : OK Γ pc lv (.ref w :: st) (sL w g) σ := sorry
theorem ok_strAt (C : OKC Γ cc own ret) {w index : Nat} {i : Int32} (hw : 3 < cx_fr Γ ∧ (st.map fun v => v.category).sum + 200 ≤ cx_lo Γ) (L : Cond.methodLink own index yJ0_charAt_5068e ∈ ax_ALL) (hdg : decode cc pc = .ok (.invokevirtual index, 3)) {g : Int32 → Option AR} (k : ∀ v, OK Γ (pc + 3) lv (.int v :: st) (g v) σ) : OK Γ pc lv (.int i :: .ref w :: st) (sC w i g) σ := sorry
theorem ok_newM (C : OKC Γ cc own ret) {index : Nat} {n k : Int32} (Lk : Cond.classLink own index "[[I" ∈ ax_ALL) (harr : Cond.arrayClass .int ∈ ax_ALL) (hdg : decode cc pc = .ok (.multianewarray index 2, 4)) {g : Nat → AS → Option AR} (kk : ∀ q τ, OK Γ (pc + 4) lv (.ref q :: st) (g q τ) τ) : OK Γ pc lv (.int k :: .int n :: st) (nM σ n k g) σ := sorry
end OKS
