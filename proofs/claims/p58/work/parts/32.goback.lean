/-! The shelf: goBack. -/
section BS
variable {E : AE} {G L : Nat → Nat → Int} {r : Nat → Nat → Option Nat} {h : AH} {Q : AH → Value → Prop} {S H n a c : Nat} {p q : Nat → Nat} {σ τ : Nat → Nat → Int} {kk nn : Nat → Int} {i v x b u s kd' : Int}
theorem SHF_less {G' : Nat → Nat → Int} (hF : SHF E r G H p q n σ a kk nn τ) (hc : c ≤ a) (hG : ∀ x, x ≠ H → G' x = G x) (h1 : G' H 1 = G H 1) (h7 : G' H 7 = c) : SHF E r G' H p q n σ c kk nn τ := by
  obtain ⟨hH, hp, hq, ⟨n1, n2⟩, hS, hR, ⟨a1, a2⟩, hT, hA⟩ := hF
  refine ⟨hH, hp, hq, ⟨h1.trans n1, n2⟩, fun t ht => rgS_c (fun x x1 x2 => hG x (by omega)) (hS t ht), fun t ht => ⟨RS_c (fun x x1 x2 => hG x (by omega)) (hR t ht).1, (hR t ht).2⟩, ⟨h7, by omega⟩, fun t ht => rgS_c (fun x x1 x2 => hG x (by omega)) (hT t ht), fun t ht => ?_⟩
  obtain ⟨c1, c2, c3⟩ := hA t (by omega)
  rw [hG _ (by omega), hG _ (by omega)]
  exact ⟨c1, c2, fun y => ⟨RS_c (fun x x1 x2 => hG x (by omega)) (c3 y).1, (c3 y).2⟩⟩
end BS
