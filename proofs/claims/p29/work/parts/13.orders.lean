/-! ===== Orders: what of them is asked ===== -/
def OT.n (S : OT) : Nat := S.length.toNatClampNeg
def OT.ok (S : OT) : Prop := isN S.length S.n 60
def chr (x : Int32) : Prop := vp_nar .char x = x ∧ narrow .char (.int x) = .int x ∧ fits .char (.int x) = true
def OT.chars (S : OT) : Prop := ∀ i, i < 60 → chr (S.text i)
