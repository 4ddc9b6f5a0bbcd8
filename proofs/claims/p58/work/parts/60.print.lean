/-! print. -/
section BS
variable {E : AE} {G G' L : Nat → Nat → Int} {r r' : Nat → Nat → Option Nat} {h : AH} {Q : AH → Value → Prop} {X H S n a cl c : Nat} {v y s x d e b w k ki fr by_ ma : Int} {p q : Nat → Nat} {σ τ : Nat → Nat → Int} {kk nn : Nat → Int} {ln : Nat → Nat} {lv : Nat → Nat → Int}
end BS
