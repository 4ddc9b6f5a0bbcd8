/-! Math.min, Math.max -/
section ZM
variable {M M' : MI} {pc i : Nat} {ls st : List Value} {k : Nat × Nat} {h : AH} {Q : AH → Value → Prop} {b : ByteArray} {x y : Int}
theorem ZI_min (d : decode b pc = .ok (.invokestatic i, 3)) (hb : m_b M = b) (hl : lk (m_own M) i = some (9, M')) (hr : 1 ≤ m_fr M ∧ 21 ≤ m_lo M ∧ st.length ≤ 4) (hx : -2147483648 ≤ x ∧ x < 2147483648) (hy : -2147483648 ≤ y ∧ y < 2147483648) : RK M pc ls (.int (zi y) :: .int (zi x) :: st) k h Q = RK M (pc + 3) ls (.int (zi (if y < x then y else x)) :: st) k h Q := by
  refine RK_ki (x := if zi y < zi x then zi y else zi x) ?_ ((stp_of d hb _ _ _ _).trans ?_)
  · simp only [zi_lt hy hx]
    split <;> rfl
  · rw [ex, hl]
    exact if_pos hr
theorem ZI_max (d : decode b pc = .ok (.invokestatic i, 3)) (hb : m_b M = b) (hl : lk (m_own M) i = some (10, M')) (hr : 1 ≤ m_fr M ∧ 21 ≤ m_lo M ∧ st.length ≤ 4) (hx : -2147483648 ≤ x ∧ x < 2147483648) (hy : -2147483648 ≤ y ∧ y < 2147483648) : RK M pc ls (.int (zi y) :: .int (zi x) :: st) k h Q = RK M (pc + 3) ls (.int (zi (if x < y then y else x)) :: st) k h Q := by
  refine RK_ki (x := if zi x < zi y then zi y else zi x) ?_ ((stp_of d hb _ _ _ _).trans ?_)
  · simp only [zi_lt hx hy]
    split <;> rfl
  · rw [ex, hl]
    exact if_pos hr
end ZM
