/-! ===== an environment with other addresses ===== -/
def setAd (E : En) (ad : Nat → Nat) : En := match E with
  | (p, l, e, R, s, m, args, below, meth, c, Qc, Q, cs, A, nL, D, ad0) => (p, l, e, R, s, m, args, below, meth, c, Qc, Q, cs, A, nL, D, ad)
def ad0Of (E : En) : Nat → Nat := match E with
  | (p, l, e, R, s, m, args, below, meth, c, Qc, Q, cs, A, nL, D, ad0) => ad0
theorem Fx_ad {E : En} {own : String} {cc : ByteArray} {maxL d : Nat} (F : Fx E own cc maxL d) (ad : Nat → Nat) : Fx (setAd E ad) own cc maxL d := by
  obtain ⟨p, l, e, R, s, m, args, below, meth, c, Qc, Q, cs, A, nL, D, ad0⟩ := E
  exact F
