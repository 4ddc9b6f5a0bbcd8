/-! drop, undo. -/
section BS
variable {E : AE} {G G' L : Nat → Nat → Int} {r r' : Nat → Nat → Option Nat} {h : AH} {Q : AH → Value → Prop} {X H S n a cl c : Nat} {v y s x d e b w k : Int} {p q : Nat → Nat} {σ τ : Nat → Nat → Int} {kk nn : Nat → Int} {ln : Nat → Nat} {lv : Nat → Nat → Int}
theorem shX_r (hX : shX E r X) (h : frR r r' (X + 37)) : shX E r' X := by
  obtain ⟨x0, ⟨x1, x2, x3, x4, x5⟩, xD, xP, xS, xT⟩ := hX
  have sv : ∀ S, (S + 5 < X + 37 ∨ X + 42 < S) → shS E r S → shS E r' S := fun S hS q => by
    unfold shS at q ⊢
    rw [h S (by omega) (by omega)]
    exact q
  refine ⟨x0, ?_, ?_, ?_, sv _ (by omega) xS, xT⟩
  · rw [h X (by omega) (by omega)]
    exact ⟨x1, x2, x3, x4, x5⟩
  · obtain ⟨d0, d1, d2, d3, d4, d5, d6⟩ := xD
    refine ⟨d0, d1, d2, ?_, fun t ht => ⟨sv _ (by omega) (d4 t ht).1, ?_⟩, fun t ht => ⟨?_, ?_⟩, fun i hi => ⟨(d6 i hi).1, by have := (d6 i hi).1; rw [h _ (by omega) (by omega)]; exact (d6 i hi).2⟩⟩
    · rw [h _ (by omega) (by omega)]
      exact d3
    · rw [h _ (by omega) (by omega)]
      exact (d4 t ht).2
    · have := (d5 t ht).1
      unfold shL at this ⊢
      rw [h _ (by omega) (by omega)]
      exact this
    · rw [h _ (by omega) (by omega)]
      exact (d5 t ht).2
  · unfold shP at xP ⊢
    rw [h _ (by omega) (by omega)]
    exact xP
/-- a change of the shelf -/
theorem HXS_f {p' q' : Nat → Nat} {n' : Nat} {σ' : Nat → Nat → Int} {a' : Nat} {kk' nn' : Nat → Int} {τ' : Nat → Nat → Int} (hx : HXS E r G X p q n σ a kk nn τ) (hF : SHF E r' G' (X + 37) p' q' n' σ' a' kk' nn' τ') (hf : frH G G' (X + 37)) (hr : frR r r' (X + 37)) : HXS E r' G' X p' q' n' σ' a' kk' nn' τ' := ⟨shX_r hx.1 hr, hF, rgS_c (fun x x1 x2 => hf.1 x (by omega)) hx.2.2⟩
theorem HXR_f (hr : HXR E G X cl ln lv) (hf : frH G G' (X + 37)) : HXR E G' X cl ln lv := by
  obtain ⟨⟨⟨c1, c2⟩, h3, hh⟩, h2, h3', h4, h5⟩ := hr
  refine ⟨⟨⟨hf.2.trans c1, c2⟩, fun t ht => rgL_c (hf.1 _ (by omega)) (hf.1 _ (by omega)) (h3 t ht), fun t ht => ?_⟩, kStr_c h2 fun x xx _ => hf.1 x (by omega), ?_, ?_, ⟨fun t ht => rgS_c (fun x _ _ => hf.1 x (by omega)) (h5.1 t ht), fun t ht => rgL_c (hf.1 _ (by omega)) (hf.1 _ (by omega)) (h5.2 t ht)⟩⟩
  · rw [hf.1 _ (by omega), hf.1 _ (by omega)]
    exact hh t ht
  · rw [hf.1 _ (by omega)]
    exact h3'
  · rw [hf.1 _ (by omega)]
    exact h4
end BS
