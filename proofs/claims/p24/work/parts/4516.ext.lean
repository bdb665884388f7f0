/-! WHAT ELSE THE ROW KEEPS: nothing -/
def EXK (s : GS) (H : Nat → GVW) : Prop := True
def EXQ (L : FM) : Bool := true
theorem ext_fr {s t : GS} {L : FM} {H H2 : Nat → GVW} (h : EXK s H) (hF : Fr L s t) (hk : EXQ L = true) (he : ∀ k : Nat, (k : Int) ≤ (s.2.2.1 2 0).toInt → H2 k = H k) (hv : (s.2.2.1 2 0).toInt ≤ (t.2.2.1 2 0).toInt) : EXK t H2 := trivial
