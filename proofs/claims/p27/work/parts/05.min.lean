abbrev A32 : Type := Nat → Int32
abbrev inB (i : Int32) (n : Nat) : Prop := ¬ (i < 0 ∨ n ≤ i.toNatClampNeg)
def nam {α β : Type} (e : α) (k : α → β) : β := k e
def FU : Nat := 100000
