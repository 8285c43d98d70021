/-! states as numbers -/
abbrev St : Type := Nat → Int → Int
def up (σ : St) (k : Nat) (i v : Int) : St := fun k2 => if k2 = k then fup (σ k) i v else σ k2
theorem up_eq (σ : St) (k : Nat) (i v : Int) : up σ k i v k = fup (σ k) i v := if_pos rfl
theorem up_ne {σ : St} {k j : Nat} {i v : Int} (h : j ≠ k) : up σ k i v j = σ j := if_neg h
