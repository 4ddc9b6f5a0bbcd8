section ZJ
variable {M : MI} {pc t p2 t2 : Nat} {ls st : List Value} {k : Nat × Nat} {h : AH} {Q : AH → Value → Prop} {b : ByteArray} {off : Int} {x y : Int}
theorem ZIF_eq (d : decode b pc = .ok (.ifCond .eq off, 3)) (hb : m_b M = b) (ht : (pc : Int) + off = (t : Int)) (hx : -2147483648 ≤ x ∧ x < 2147483648) : RK M pc ls (.int (zi x) :: st) k h Q = if x = 0 then RK M t ls st k h Q else RK M (pc + 3) ls st k h Q := by
  rw [RK_if_eq d hb ht]
  rw [zi_0]
  simp only [zi_eq (y := 0) hx ⟨by decide, by decide⟩]
theorem ZIF_ne (d : decode b pc = .ok (.ifCond .ne off, 3)) (hb : m_b M = b) (ht : (pc : Int) + off = (t : Int)) (hx : -2147483648 ≤ x ∧ x < 2147483648) : RK M pc ls (.int (zi x) :: st) k h Q = if x = 0 then RK M (pc + 3) ls st k h Q else RK M t ls st k h Q := by
  rw [RK_if_ne d hb ht]
  rw [zi_0]
  simp only [zi_eq (y := 0) hx ⟨by decide, by decide⟩]
theorem ZIF_lt (d : decode b pc = .ok (.ifCond .lt off, 3)) (hb : m_b M = b) (ht : (pc : Int) + off = (t : Int)) (hx : -2147483648 ≤ x ∧ x < 2147483648) : RK M pc ls (.int (zi x) :: st) k h Q = if x < 0 then RK M t ls st k h Q else RK M (pc + 3) ls st k h Q := by
  rw [RK_if_lt d hb ht]
  rw [zi_0]
  simp only [zi_lt (y := 0) hx ⟨by decide, by decide⟩]
theorem ZIF_ge (d : decode b pc = .ok (.ifCond .ge off, 3)) (hb : m_b M = b) (ht : (pc : Int) + off = (t : Int)) (hx : -2147483648 ≤ x ∧ x < 2147483648) : RK M pc ls (.int (zi x) :: st) k h Q = if x < 0 then RK M (pc + 3) ls st k h Q else RK M t ls st k h Q := by
  rw [RK_if_ge d hb ht]
  rw [zi_0]
  simp only [zi_lt (y := 0) hx ⟨by decide, by decide⟩]
theorem ZIF_gt (d : decode b pc = .ok (.ifCond .gt off, 3)) (hb : m_b M = b) (ht : (pc : Int) + off = (t : Int)) (hx : -2147483648 ≤ x ∧ x < 2147483648) : RK M pc ls (.int (zi x) :: st) k h Q = if x ≤ 0 then RK M (pc + 3) ls st k h Q else RK M t ls st k h Q := by
  rw [RK_if_gt d hb ht]
  rw [zi_0]
  simp only [zi_le (y := 0) hx ⟨by decide, by decide⟩]
theorem ZIF_le (d : decode b pc = .ok (.ifCond .le off, 3)) (hb : m_b M = b) (ht : (pc : Int) + off = (t : Int)) (hx : -2147483648 ≤ x ∧ x < 2147483648) : RK M pc ls (.int (zi x) :: st) k h Q = if x ≤ 0 then RK M t ls st k h Q else RK M (pc + 3) ls st k h Q := by
  rw [RK_if_le d hb ht]
  rw [zi_0]
  simp only [zi_le (y := 0) hx ⟨by decide, by decide⟩]
theorem ZIC_eq (d : decode b pc = .ok (.if_icmp .eq off, 3)) (hb : m_b M = b) (ht : (pc : Int) + off = (t : Int)) (hx : -2147483648 ≤ x ∧ x < 2147483648) (hy : -2147483648 ≤ y ∧ y < 2147483648) : RK M pc ls (.int (zi y) :: .int (zi x) :: st) k h Q = if x = y then RK M t ls st k h Q else RK M (pc + 3) ls st k h Q := by
  rw [RK_ic_eq d hb ht]
  simp only [zi_eq hx hy]
theorem ZIC_ne (d : decode b pc = .ok (.if_icmp .ne off, 3)) (hb : m_b M = b) (ht : (pc : Int) + off = (t : Int)) (hx : -2147483648 ≤ x ∧ x < 2147483648) (hy : -2147483648 ≤ y ∧ y < 2147483648) : RK M pc ls (.int (zi y) :: .int (zi x) :: st) k h Q = if x = y then RK M (pc + 3) ls st k h Q else RK M t ls st k h Q := by
  rw [RK_ic_ne d hb ht]
  simp only [zi_eq hx hy]
theorem ZIC_lt (d : decode b pc = .ok (.if_icmp .lt off, 3)) (hb : m_b M = b) (ht : (pc : Int) + off = (t : Int)) (hx : -2147483648 ≤ x ∧ x < 2147483648) (hy : -2147483648 ≤ y ∧ y < 2147483648) : RK M pc ls (.int (zi y) :: .int (zi x) :: st) k h Q = if x < y then RK M t ls st k h Q else RK M (pc + 3) ls st k h Q := by
  rw [RK_ic_lt d hb ht]
  simp only [zi_lt hx hy]
theorem ZIC_ge (d : decode b pc = .ok (.if_icmp .ge off, 3)) (hb : m_b M = b) (ht : (pc : Int) + off = (t : Int)) (hx : -2147483648 ≤ x ∧ x < 2147483648) (hy : -2147483648 ≤ y ∧ y < 2147483648) : RK M pc ls (.int (zi y) :: .int (zi x) :: st) k h Q = if x < y then RK M (pc + 3) ls st k h Q else RK M t ls st k h Q := by
  rw [RK_ic_ge d hb ht]
  simp only [zi_lt hx hy]
theorem ZIC_gt (d : decode b pc = .ok (.if_icmp .gt off, 3)) (hb : m_b M = b) (ht : (pc : Int) + off = (t : Int)) (hx : -2147483648 ≤ x ∧ x < 2147483648) (hy : -2147483648 ≤ y ∧ y < 2147483648) : RK M pc ls (.int (zi y) :: .int (zi x) :: st) k h Q = if x ≤ y then RK M (pc + 3) ls st k h Q else RK M t ls st k h Q := by
  rw [RK_ic_gt d hb ht]
  simp only [zi_le hx hy]
theorem ZIC_le (d : decode b pc = .ok (.if_icmp .le off, 3)) (hb : m_b M = b) (ht : (pc : Int) + off = (t : Int)) (hx : -2147483648 ≤ x ∧ x < 2147483648) (hy : -2147483648 ≤ y ∧ y < 2147483648) : RK M pc ls (.int (zi y) :: .int (zi x) :: st) k h Q = if x ≤ y then RK M t ls st k h Q else RK M (pc + 3) ls st k h Q := by
  rw [RK_ic_le d hb ht]
  simp only [zi_le hx hy]
theorem ZLC_eq (d0 : decode b pc = .ok (.lcmp, 1)) (d : decode b p2 = .ok (.ifCond .eq off, 3)) (hp : pc + 1 = p2) (hb : m_b M = b) (ht : (p2 : Int) + off = (t : Int)) (hx : -9223372036854775808 ≤ x ∧ x < 9223372036854775808) (hy : -9223372036854775808 ≤ y ∧ y < 9223372036854775808) : RK M pc ls (.long (zl y) :: .long (zl x) :: st) k h Q = if x = y then RK M t ls st k h Q else RK M (p2 + 3) ls st k h Q := by
  have e : RK M pc ls (.long (zl y) :: .long (zl x) :: st) k h Q = RK M (pc + 1) ls (.int (if zl x < zl y then -1 else if zl x = zl y then 0 else 1) :: st) k h Q := RK_n (stp_of d0 hb _ _ _ _)
  rw [e, hp, RK_if_eq d hb ht]
  simp only [zl_lt hx hy, zl_eq hx hy]
  rcases Int.lt_trichotomy x y with q | q | q
  · rw [if_pos q]; simp [q, Int.le_of_lt q, Int.ne_of_lt q]
  · subst q; simp
  · have q1 : ¬ x < y := by omega
    have q2 : ¬ x = y := by omega
    have q3 : ¬ x ≤ y := by omega
    rw [if_neg q1, if_neg q2]; simp [q1, q2, q3]
theorem ZLC_ne (d0 : decode b pc = .ok (.lcmp, 1)) (d : decode b p2 = .ok (.ifCond .ne off, 3)) (hp : pc + 1 = p2) (hb : m_b M = b) (ht : (p2 : Int) + off = (t : Int)) (hx : -9223372036854775808 ≤ x ∧ x < 9223372036854775808) (hy : -9223372036854775808 ≤ y ∧ y < 9223372036854775808) : RK M pc ls (.long (zl y) :: .long (zl x) :: st) k h Q = if x = y then RK M (p2 + 3) ls st k h Q else RK M t ls st k h Q := by
  have e : RK M pc ls (.long (zl y) :: .long (zl x) :: st) k h Q = RK M (pc + 1) ls (.int (if zl x < zl y then -1 else if zl x = zl y then 0 else 1) :: st) k h Q := RK_n (stp_of d0 hb _ _ _ _)
  rw [e, hp, RK_if_ne d hb ht]
  simp only [zl_lt hx hy, zl_eq hx hy]
  rcases Int.lt_trichotomy x y with q | q | q
  · rw [if_pos q]; simp [q, Int.le_of_lt q, Int.ne_of_lt q]
  · subst q; simp
  · have q1 : ¬ x < y := by omega
    have q2 : ¬ x = y := by omega
    have q3 : ¬ x ≤ y := by omega
    rw [if_neg q1, if_neg q2]; simp [q1, q2, q3]
theorem ZLC_lt (d0 : decode b pc = .ok (.lcmp, 1)) (d : decode b p2 = .ok (.ifCond .lt off, 3)) (hp : pc + 1 = p2) (hb : m_b M = b) (ht : (p2 : Int) + off = (t : Int)) (hx : -9223372036854775808 ≤ x ∧ x < 9223372036854775808) (hy : -9223372036854775808 ≤ y ∧ y < 9223372036854775808) : RK M pc ls (.long (zl y) :: .long (zl x) :: st) k h Q = if x < y then RK M t ls st k h Q else RK M (p2 + 3) ls st k h Q := by
  have e : RK M pc ls (.long (zl y) :: .long (zl x) :: st) k h Q = RK M (pc + 1) ls (.int (if zl x < zl y then -1 else if zl x = zl y then 0 else 1) :: st) k h Q := RK_n (stp_of d0 hb _ _ _ _)
  rw [e, hp, RK_if_lt d hb ht]
  simp only [zl_lt hx hy, zl_eq hx hy]
  rcases Int.lt_trichotomy x y with q | q | q
  · rw [if_pos q]; simp [q, Int.le_of_lt q, Int.ne_of_lt q]
  · subst q; simp
  · have q1 : ¬ x < y := by omega
    have q2 : ¬ x = y := by omega
    have q3 : ¬ x ≤ y := by omega
    rw [if_neg q1, if_neg q2]; simp [q1, q2, q3]
theorem ZLC_ge (d0 : decode b pc = .ok (.lcmp, 1)) (d : decode b p2 = .ok (.ifCond .ge off, 3)) (hp : pc + 1 = p2) (hb : m_b M = b) (ht : (p2 : Int) + off = (t : Int)) (hx : -9223372036854775808 ≤ x ∧ x < 9223372036854775808) (hy : -9223372036854775808 ≤ y ∧ y < 9223372036854775808) : RK M pc ls (.long (zl y) :: .long (zl x) :: st) k h Q = if x < y then RK M (p2 + 3) ls st k h Q else RK M t ls st k h Q := by
  have e : RK M pc ls (.long (zl y) :: .long (zl x) :: st) k h Q = RK M (pc + 1) ls (.int (if zl x < zl y then -1 else if zl x = zl y then 0 else 1) :: st) k h Q := RK_n (stp_of d0 hb _ _ _ _)
  rw [e, hp, RK_if_ge d hb ht]
  simp only [zl_lt hx hy, zl_eq hx hy]
  rcases Int.lt_trichotomy x y with q | q | q
  · rw [if_pos q]; simp [q, Int.le_of_lt q, Int.ne_of_lt q]
  · subst q; simp
  · have q1 : ¬ x < y := by omega
    have q2 : ¬ x = y := by omega
    have q3 : ¬ x ≤ y := by omega
    rw [if_neg q1, if_neg q2]; simp [q1, q2, q3]
theorem ZLC_gt (d0 : decode b pc = .ok (.lcmp, 1)) (d : decode b p2 = .ok (.ifCond .gt off, 3)) (hp : pc + 1 = p2) (hb : m_b M = b) (ht : (p2 : Int) + off = (t : Int)) (hx : -9223372036854775808 ≤ x ∧ x < 9223372036854775808) (hy : -9223372036854775808 ≤ y ∧ y < 9223372036854775808) : RK M pc ls (.long (zl y) :: .long (zl x) :: st) k h Q = if x ≤ y then RK M (p2 + 3) ls st k h Q else RK M t ls st k h Q := by
  have e : RK M pc ls (.long (zl y) :: .long (zl x) :: st) k h Q = RK M (pc + 1) ls (.int (if zl x < zl y then -1 else if zl x = zl y then 0 else 1) :: st) k h Q := RK_n (stp_of d0 hb _ _ _ _)
  rw [e, hp, RK_if_gt d hb ht]
  simp only [zl_lt hx hy, zl_eq hx hy]
  rcases Int.lt_trichotomy x y with q | q | q
  · rw [if_pos q]; simp [q, Int.le_of_lt q, Int.ne_of_lt q]
  · subst q; simp
  · have q1 : ¬ x < y := by omega
    have q2 : ¬ x = y := by omega
    have q3 : ¬ x ≤ y := by omega
    rw [if_neg q1, if_neg q2]; simp [q1, q2, q3]
theorem ZLC_le (d0 : decode b pc = .ok (.lcmp, 1)) (d : decode b p2 = .ok (.ifCond .le off, 3)) (hp : pc + 1 = p2) (hb : m_b M = b) (ht : (p2 : Int) + off = (t : Int)) (hx : -9223372036854775808 ≤ x ∧ x < 9223372036854775808) (hy : -9223372036854775808 ≤ y ∧ y < 9223372036854775808) : RK M pc ls (.long (zl y) :: .long (zl x) :: st) k h Q = if x ≤ y then RK M t ls st k h Q else RK M (p2 + 3) ls st k h Q := by
  have e : RK M pc ls (.long (zl y) :: .long (zl x) :: st) k h Q = RK M (pc + 1) ls (.int (if zl x < zl y then -1 else if zl x = zl y then 0 else 1) :: st) k h Q := RK_n (stp_of d0 hb _ _ _ _)
  rw [e, hp, RK_if_le d hb ht]
  simp only [zl_lt hx hy, zl_eq hx hy]
  rcases Int.lt_trichotomy x y with q | q | q
  · rw [if_pos q]; simp [q, Int.le_of_lt q, Int.ne_of_lt q]
  · subst q; simp
  · have q1 : ¬ x < y := by omega
    have q2 : ¬ x = y := by omega
    have q3 : ¬ x ≤ y := by omega
    rw [if_neg q1, if_neg q2]; simp [q1, q2, q3]
end ZJ
