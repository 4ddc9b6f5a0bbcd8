/-! SOUNDNESS of the small machine: the tables' words. -/
def SBn : String := "java/lang/StringBuilder"
def mB (M : MI) : Prop := (Cond.code (m_y M) (m_b M) (m_ml M) (m_ret M) ∈ TB ∧ Cond.initialized (m_y M).cls ∈ TB) ∧ ((m_y M).cls ≠ "java/lang/invoke/MethodHandle" ∧ (m_y M).cls ≠ "java/lang/invoke/VarHandle") ∧ plainName (m_y M).cls = true ∧ (m_y M).cls = RN (m_own M)
def mS (M : MI) : Prop := Cond.static (m_y M) ∈ TB ∧ (parseMethodDescriptor (m_y M).desc).map (fun d => d.parameters.length) = some (m_na M)
def mV (M : MI) : Prop := (Cond.instanceMethod (m_y M) ∈ TB ∧ Cond.selects (m_y M).cls (m_y M) (m_y M) ∈ TB) ∧ ((parseMethodDescriptor (m_y M).desc).map (fun d => d.parameters.length) = some (m_na M - 1) ∧ 1 ≤ m_na M) ∧ oc (m_own M) < 8 ∧ RO (oc (m_own M)) = (m_y M).cls
def mC (M : MI) : Prop := Cond.instanceMethod (m_y M) ∈ TB ∧ ((parseMethodDescriptor (m_y M).desc).map (fun d => d.parameters.length) = some (m_na M - 1) ∧ 1 ≤ m_na M) ∧ (m_y M).name = "<init>" ∧ m_ret M = none
/-- a method of the class above, asked of a StringBuilder -/
def mU (M : MI) : Prop := (Cond.instanceMethod (m_y M) ∈ TB ∧ Cond.selects SBn (m_y M) (m_y M) ∈ TB ∧ Cond.sameMethod (m_y M).cls (m_y M).cls (m_y M).name (m_y M).desc ∈ TB) ∧ ((parseMethodDescriptor (m_y M).desc).map (fun d => d.parameters.length) = some (m_na M - 1) ∧ 1 ≤ m_na M) ∧ oc (m_own M) = 7
/-- the same by super. -/
def mW (M : MI) : Prop := (Cond.instanceMethod (m_y M) ∈ TB ∧ Cond.sameMethod (m_y M).cls (m_y M).cls (m_y M).name (m_y M).desc ∈ TB ∧ Cond.superclass (RN 19) (m_y M).cls ∈ TB) ∧ ((parseMethodDescriptor (m_y M).desc).map (fun d => d.parameters.length) = some (m_na M - 1) ∧ 1 ≤ m_na M) ∧ (m_y M).name ≠ "<init>" ∧ oc (m_own M) = 7
def nL (own idx : Nat) (y : MethodName) : Prop := Cond.methodLink (RN own) idx y ∈ TB
def nN (own idx : Nat) (y : MethodName) : Prop := ∃ host, Cond.methodLinkNest (RN own) idx y host ∈ NW
def LK2 (own idx : Nat) (q : Nat × MI) : Prop := match q.1 with
  | 0 => nL own idx (m_y q.2) ∧ mV q.2 ∧ m_own q.2 < 23
  | 1 => nL own idx (m_y q.2) ∧ mS q.2 ∧ m_own q.2 < 23
  | 2 => nN own idx (m_y q.2) ∧ mS q.2 ∧ m_own q.2 < 23
  | 3 => nL own idx (m_y q.2) ∧ mC q.2 ∧ m_own q.2 < 23
  | 4 => nN own idx (m_y q.2) ∧ mC q.2 ∧ m_own q.2 < 23
  | 6 => nN own idx (m_y q.2) ∧ mV q.2 ∧ m_own q.2 < 23
  | 11 => nL own idx (m_y q.2) ∧ mU q.2 ∧ m_own q.2 < 23
  | 13 => nL own idx (m_y q.2) ∧ mU q.2 ∧ m_own q.2 < 23
  | 15 => nL own idx (m_y q.2) ∧ (mW q.2 ∧ own = 19) ∧ m_own q.2 < 23
  | 12 => nL own idx (m_y MJ5_length_8abf5) ∧ q.2 = MJ4_length_8abf5 ∧ m_own q.2 < 23
  | _ => False
def LF (own idx : Nat) (q : Nat × MI) : Prop := match q.1 with
  | 9 => nL own idx (m_y q.2) ∧ q.2 = MJ9_min_7cf53
  | 10 => nL own idx (m_y q.2) ∧ q.2 = MJ9_max_7cf53
  | 14 => Cond.methodLink (RN own) idx arraycopyName ∈ TB
  | _ => mB q.2 ∧ LK2 own idx q

theorem cini_2 : Cond.initialized (RN 2) ∈ TB := TB_in 8 (by decide +kernel) rfl
theorem cn_2 : (RN 2 ≠ "java/lang/invoke/MethodHandle" ∧ RN 2 ≠ "java/lang/invoke/VarHandle") ∧ plainName (RN 2) = true := by decide +kernel
theorem cini_3 : Cond.initialized (RN 3) ∈ TB := TB_in 22 (by decide +kernel) rfl
theorem cn_3 : (RN 3 ≠ "java/lang/invoke/MethodHandle" ∧ RN 3 ≠ "java/lang/invoke/VarHandle") ∧ plainName (RN 3) = true := by decide +kernel
theorem cini_4 : Cond.initialized (RN 4) ∈ TB := TB_in 10 (by decide +kernel) rfl
theorem cn_4 : (RN 4 ≠ "java/lang/invoke/MethodHandle" ∧ RN 4 ≠ "java/lang/invoke/VarHandle") ∧ plainName (RN 4) = true := by decide +kernel
theorem cini_5 : Cond.initialized (RN 5) ∈ TB := TB_in 6 (by decide +kernel) rfl
theorem cn_5 : (RN 5 ≠ "java/lang/invoke/MethodHandle" ∧ RN 5 ≠ "java/lang/invoke/VarHandle") ∧ plainName (RN 5) = true := by decide +kernel
theorem cini_6 : Cond.initialized (RN 6) ∈ TB := TB_in 9 (by decide +kernel) rfl
theorem cn_6 : (RN 6 ≠ "java/lang/invoke/MethodHandle" ∧ RN 6 ≠ "java/lang/invoke/VarHandle") ∧ plainName (RN 6) = true := by decide +kernel
theorem cini_7 : Cond.initialized (RN 7) ∈ TB := TB_in 7 (by decide +kernel) rfl
theorem cn_7 : (RN 7 ≠ "java/lang/invoke/MethodHandle" ∧ RN 7 ≠ "java/lang/invoke/VarHandle") ∧ plainName (RN 7) = true := by decide +kernel
theorem cini_9 : Cond.initialized (RN 9) ∈ TB := TB_in 5 (by decide +kernel) rfl
theorem cn_9 : (RN 9 ≠ "java/lang/invoke/MethodHandle" ∧ RN 9 ≠ "java/lang/invoke/VarHandle") ∧ plainName (RN 9) = true := by decide +kernel
theorem cini_11 : Cond.initialized (RN 11) ∈ TB := TB_in 4 (by decide +kernel) rfl
theorem cn_11 : (RN 11 ≠ "java/lang/invoke/MethodHandle" ∧ RN 11 ≠ "java/lang/invoke/VarHandle") ∧ plainName (RN 11) = true := by decide +kernel
theorem cini_12 : Cond.initialized (RN 12) ∈ TB := TB_in 21 (by decide +kernel) rfl
theorem cn_12 : (RN 12 ≠ "java/lang/invoke/MethodHandle" ∧ RN 12 ≠ "java/lang/invoke/VarHandle") ∧ plainName (RN 12) = true := by decide +kernel
theorem cini_13 : Cond.initialized (RN 13) ∈ TB := TB_in 16 (by decide +kernel) rfl
theorem cini_14 : Cond.initialized (RN 14) ∈ TB := TB_in 13 (by decide +kernel) rfl
theorem cn_14 : (RN 14 ≠ "java/lang/invoke/MethodHandle" ∧ RN 14 ≠ "java/lang/invoke/VarHandle") ∧ plainName (RN 14) = true := by decide +kernel
theorem cini_15 : Cond.initialized (RN 15) ∈ TB := TB_in 20 (by decide +kernel) rfl
theorem cn_15 : (RN 15 ≠ "java/lang/invoke/MethodHandle" ∧ RN 15 ≠ "java/lang/invoke/VarHandle") ∧ plainName (RN 15) = true := by decide +kernel
theorem cini_16 : Cond.initialized (RN 16) ∈ TB := TB_in 14 (by decide +kernel) rfl
theorem cn_16 : (RN 16 ≠ "java/lang/invoke/MethodHandle" ∧ RN 16 ≠ "java/lang/invoke/VarHandle") ∧ plainName (RN 16) = true := by decide +kernel
theorem cini_17 : Cond.initialized (RN 17) ∈ TB := TB_in 19 (by decide +kernel) rfl
theorem cn_17 : (RN 17 ≠ "java/lang/invoke/MethodHandle" ∧ RN 17 ≠ "java/lang/invoke/VarHandle") ∧ plainName (RN 17) = true := by decide +kernel
theorem cini_18 : Cond.initialized (RN 18) ∈ TB := TB_in 11 (by decide +kernel) rfl
theorem cn_18 : (RN 18 ≠ "java/lang/invoke/MethodHandle" ∧ RN 18 ≠ "java/lang/invoke/VarHandle") ∧ plainName (RN 18) = true := by decide +kernel
theorem cini_19 : Cond.initialized (RN 19) ∈ TB := TB_in 12 (by decide +kernel) rfl
theorem cn_19 : (RN 19 ≠ "java/lang/invoke/MethodHandle" ∧ RN 19 ≠ "java/lang/invoke/VarHandle") ∧ plainName (RN 19) = true := by decide +kernel
theorem cini_20 : Cond.initialized (RN 20) ∈ TB := TB_in 17 (by decide +kernel) rfl
theorem cn_20 : (RN 20 ≠ "java/lang/invoke/MethodHandle" ∧ RN 20 ≠ "java/lang/invoke/VarHandle") ∧ plainName (RN 20) = true := by decide +kernel
theorem cini_21 : Cond.initialized (RN 21) ∈ TB := TB_in 15 (by decide +kernel) rfl
theorem cn_21 : (RN 21 ≠ "java/lang/invoke/MethodHandle" ∧ RN 21 ≠ "java/lang/invoke/VarHandle") ∧ plainName (RN 21) = true := by decide +kernel
theorem cini_22 : Cond.initialized (RN 22) ∈ TB := TB_in 18 (by decide +kernel) rfl
theorem cn_22 : (RN 22 ≠ "java/lang/invoke/MethodHandle" ∧ RN 22 ≠ "java/lang/invoke/VarHandle") ∧ plainName (RN 22) = true := by decide +kernel
theorem mB_MX2_init : mB MX2_init := ⟨⟨TB_in 102 (by decide +kernel) rfl, cini_2⟩, cn_2.1, cn_2.2, rfl⟩
theorem mC_MX2_init : mC MX2_init := ⟨TB_in 101 (by decide +kernel) rfl, ⟨by decide +kernel, by decide⟩, rfl, rfl⟩
theorem mB_MX2_append : mB MX2_append := ⟨⟨TB_in 603 (by decide +kernel) rfl, cini_2⟩, cn_2.1, cn_2.2, rfl⟩
theorem mV_MX2_append : mV MX2_append := ⟨⟨TB_in 601 (by decide +kernel) rfl, TB_in 602 (by decide +kernel) rfl⟩, ⟨by decide +kernel, by decide⟩, by decide, rfl⟩
theorem mB_MX2_takeOver : mB MX2_takeOver := ⟨⟨TB_in 618 (by decide +kernel) rfl, cini_2⟩, cn_2.1, cn_2.2, rfl⟩
theorem mV_MX2_takeOver : mV MX2_takeOver := ⟨⟨TB_in 616 (by decide +kernel) rfl, TB_in 617 (by decide +kernel) rfl⟩, ⟨by decide +kernel, by decide⟩, by decide, rfl⟩
theorem mB_MX3_countFrom : mB MX3_countFrom := ⟨⟨TB_in 346 (by decide +kernel) rfl, cini_3⟩, cn_3.1, cn_3.2, rfl⟩
theorem mS_MX3_countFrom : mS MX3_countFrom := ⟨TB_in 345 (by decide +kernel) rfl, by decide +kernel⟩
theorem mB_MX3_firstStruckBy : mB MX3_firstStruckBy := ⟨⟨TB_in 352 (by decide +kernel) rfl, cini_3⟩, cn_3.1, cn_3.2, rfl⟩
theorem mS_MX3_firstStruckBy : mS MX3_firstStruckBy := ⟨TB_in 351 (by decide +kernel) rfl, by decide +kernel⟩
theorem mB_MX3_roundOfEvent : mB MX3_roundOfEvent := ⟨⟨TB_in 911 (by decide +kernel) rfl, cini_3⟩, cn_3.1, cn_3.2, rfl⟩
theorem mS_MX3_roundOfEvent : mS MX3_roundOfEvent := ⟨TB_in 910 (by decide +kernel) rfl, by decide +kernel⟩
theorem mB_MX3_placeAhead : mB MX3_placeAhead := ⟨⟨TB_in 349 (by decide +kernel) rfl, cini_3⟩, cn_3.1, cn_3.2, rfl⟩
theorem mS_MX3_placeAhead : mS MX3_placeAhead := ⟨TB_in 348 (by decide +kernel) rfl, by decide +kernel⟩
theorem mB_MX3_indexAhead : mB MX3_indexAhead := ⟨⟨TB_in 892 (by decide +kernel) rfl, cini_3⟩, cn_3.1, cn_3.2, rfl⟩
theorem mS_MX3_indexAhead : mS MX3_indexAhead := ⟨TB_in 891 (by decide +kernel) rfl, by decide +kernel⟩
theorem mB_MX3_ofRound : mB MX3_ofRound := ⟨⟨TB_in 341 (by decide +kernel) rfl, cini_3⟩, cn_3.1, cn_3.2, rfl⟩
theorem mS_MX3_ofRound : mS MX3_ofRound := ⟨TB_in 340 (by decide +kernel) rfl, by decide +kernel⟩
theorem mB_MX3_ofStruck : mB MX3_ofStruck := ⟨⟨TB_in 906 (by decide +kernel) rfl, cini_3⟩, cn_3.1, cn_3.2, rfl⟩
theorem mS_MX3_ofStruck : mS MX3_ofStruck := ⟨TB_in 905 (by decide +kernel) rfl, by decide +kernel⟩
theorem mB_MX3_ledBack : mB MX3_ledBack := ⟨⟨TB_in 889 (by decide +kernel) rfl, cini_3⟩, cn_3.1, cn_3.2, rfl⟩
theorem mS_MX3_ledBack : mS MX3_ledBack := ⟨TB_in 888 (by decide +kernel) rfl, by decide +kernel⟩
theorem mB_MX3_ledOn : mB MX3_ledOn := ⟨⟨TB_in 899 (by decide +kernel) rfl, cini_3⟩, cn_3.1, cn_3.2, rfl⟩
theorem mS_MX3_ledOn : mS MX3_ledOn := ⟨TB_in 898 (by decide +kernel) rfl, by decide +kernel⟩
theorem mB_MX3_struckNumber : mB MX3_struckNumber := ⟨⟨TB_in 931 (by decide +kernel) rfl, cini_3⟩, cn_3.1, cn_3.2, rfl⟩
theorem mS_MX3_struckNumber : mS MX3_struckNumber := ⟨TB_in 930 (by decide +kernel) rfl, by decide +kernel⟩
theorem mB_MX4_init : mB MX4_init := ⟨⟨TB_in 205 (by decide +kernel) rfl, cini_4⟩, cn_4.1, cn_4.2, rfl⟩
theorem mC_MX4_init : mC MX4_init := ⟨TB_in 204 (by decide +kernel) rfl, ⟨by decide +kernel, by decide⟩, rfl, rfl⟩
theorem mB_MX5_appendInt : mB MX5_appendInt := ⟨⟨TB_in 481 (by decide +kernel) rfl, cini_5⟩, cn_5.1, cn_5.2, rfl⟩
theorem mV_MX5_appendInt : mV MX5_appendInt := ⟨⟨TB_in 479 (by decide +kernel) rfl, TB_in 480 (by decide +kernel) rfl⟩, ⟨by decide +kernel, by decide⟩, by decide, rfl⟩
theorem mB_MX5_look : mB MX5_look := ⟨⟨TB_in 494 (by decide +kernel) rfl, cini_5⟩, cn_5.1, cn_5.2, rfl⟩
theorem mV_MX5_look : mV MX5_look := ⟨⟨TB_in 492 (by decide +kernel) rfl, TB_in 493 (by decide +kernel) rfl⟩, ⟨by decide +kernel, by decide⟩, by decide, rfl⟩
theorem mB_MX5_is : mB MX5_is := ⟨⟨TB_in 512 (by decide +kernel) rfl, cini_5⟩, cn_5.1, cn_5.2, rfl⟩
theorem mV_MX5_is : mV MX5_is := ⟨⟨TB_in 510 (by decide +kernel) rfl, TB_in 511 (by decide +kernel) rfl⟩, ⟨by decide +kernel, by decide⟩, by decide, rfl⟩
theorem mB_MX5_readSieve : mB MX5_readSieve := ⟨⟨TB_in 518 (by decide +kernel) rfl, cini_5⟩, cn_5.1, cn_5.2, rfl⟩
theorem mV_MX5_readSieve : mV MX5_readSieve := ⟨⟨TB_in 516 (by decide +kernel) rfl, TB_in 517 (by decide +kernel) rfl⟩, ⟨by decide +kernel, by decide⟩, by decide, rfl⟩
theorem mB_MX5_readList : mB MX5_readList := ⟨⟨TB_in 595 (by decide +kernel) rfl, cini_5⟩, cn_5.1, cn_5.2, rfl⟩
theorem mV_MX5_readList : mV MX5_readList := ⟨⟨TB_in 593 (by decide +kernel) rfl, TB_in 594 (by decide +kernel) rfl⟩, ⟨by decide +kernel, by decide⟩, by decide, rfl⟩
theorem mB_MX5_unexpected : mB MX5_unexpected := ⟨⟨TB_in 550 (by decide +kernel) rfl, cini_5⟩, cn_5.1, cn_5.2, rfl⟩
theorem mV_MX5_unexpected : mV MX5_unexpected := ⟨⟨TB_in 548 (by decide +kernel) rfl, TB_in 549 (by decide +kernel) rfl⟩, ⟨by decide +kernel, by decide⟩, by decide, rfl⟩
theorem mB_MX5_sieveAt : mB MX5_sieveAt := ⟨⟨TB_in 522 (by decide +kernel) rfl, cini_5⟩, cn_5.1, cn_5.2, rfl⟩
theorem mV_MX5_sieveAt : mV MX5_sieveAt := ⟨⟨TB_in 520 (by decide +kernel) rfl, TB_in 521 (by decide +kernel) rfl⟩, ⟨by decide +kernel, by decide⟩, by decide, rfl⟩
theorem mB_MX5_refuse : mB MX5_refuse := ⟨⟨TB_in 527 (by decide +kernel) rfl, cini_5⟩, cn_5.1, cn_5.2, rfl⟩
theorem mV_MX5_refuse : mV MX5_refuse := ⟨⟨TB_in 525 (by decide +kernel) rfl, TB_in 526 (by decide +kernel) rfl⟩, ⟨by decide +kernel, by decide⟩, by decide, rfl⟩
theorem mB_MX5_readName : mB MX5_readName := ⟨⟨TB_in 531 (by decide +kernel) rfl, cini_5⟩, cn_5.1, cn_5.2, rfl⟩
theorem mV_MX5_readName : mV MX5_readName := ⟨⟨TB_in 529 (by decide +kernel) rfl, TB_in 530 (by decide +kernel) rfl⟩, ⟨by decide +kernel, by decide⟩, by decide, rfl⟩
theorem mB_MX5_readWord : mB MX5_readWord := ⟨⟨TB_in 559 (by decide +kernel) rfl, cini_5⟩, cn_5.1, cn_5.2, rfl⟩
theorem mV_MX5_readWord : mV MX5_readWord := ⟨⟨TB_in 557 (by decide +kernel) rfl, TB_in 558 (by decide +kernel) rfl⟩, ⟨by decide +kernel, by decide⟩, by decide, rfl⟩
theorem mB_MX5_readNumber : mB MX5_readNumber := ⟨⟨TB_in 563 (by decide +kernel) rfl, cini_5⟩, cn_5.1, cn_5.2, rfl⟩
theorem mV_MX5_readNumber : mV MX5_readNumber := ⟨⟨TB_in 561 (by decide +kernel) rfl, TB_in 562 (by decide +kernel) rfl⟩, ⟨by decide +kernel, by decide⟩, by decide, rfl⟩
theorem mB_MX5_kindOfLaw : mB MX5_kindOfLaw := ⟨⟨TB_in 567 (by decide +kernel) rfl, cini_5⟩, cn_5.1, cn_5.2, rfl⟩
theorem mV_MX5_kindOfLaw : mV MX5_kindOfLaw := ⟨⟨TB_in 565 (by decide +kernel) rfl, TB_in 566 (by decide +kernel) rfl⟩, ⟨by decide +kernel, by decide⟩, by decide, rfl⟩
theorem mB_MX5_readFixed : mB MX5_readFixed := ⟨⟨TB_in 579 (by decide +kernel) rfl, cini_5⟩, cn_5.1, cn_5.2, rfl⟩
theorem mV_MX5_readFixed : mV MX5_readFixed := ⟨⟨TB_in 577 (by decide +kernel) rfl, TB_in 578 (by decide +kernel) rfl⟩, ⟨by decide +kernel, by decide⟩, by decide, rfl⟩
theorem mB_MX5_readTold : mB MX5_readTold := ⟨⟨TB_in 583 (by decide +kernel) rfl, cini_5⟩, cn_5.1, cn_5.2, rfl⟩
theorem mV_MX5_readTold : mV MX5_readTold := ⟨⟨TB_in 581 (by decide +kernel) rfl, TB_in 582 (by decide +kernel) rfl⟩, ⟨by decide +kernel, by decide⟩, by decide, rfl⟩
theorem mB_MX5_readSign : mB MX5_readSign := ⟨⟨TB_in 591 (by decide +kernel) rfl, cini_5⟩, cn_5.1, cn_5.2, rfl⟩
theorem mV_MX5_readSign : mV MX5_readSign := ⟨⟨TB_in 589 (by decide +kernel) rfl, TB_in 590 (by decide +kernel) rfl⟩, ⟨by decide +kernel, by decide⟩, by decide, rfl⟩
theorem mB_MX5_refuseSurplus : mB MX5_refuseSurplus := ⟨⟨TB_in 587 (by decide +kernel) rfl, cini_5⟩, cn_5.1, cn_5.2, rfl⟩
theorem mV_MX5_refuseSurplus : mV MX5_refuseSurplus := ⟨⟨TB_in 585 (by decide +kernel) rfl, TB_in 586 (by decide +kernel) rfl⟩, ⟨by decide +kernel, by decide⟩, by decide, rfl⟩
theorem mB_MX5_listAt : mB MX5_listAt := ⟨⟨TB_in 599 (by decide +kernel) rfl, cini_5⟩, cn_5.1, cn_5.2, rfl⟩
theorem mV_MX5_listAt : mV MX5_listAt := ⟨⟨TB_in 597 (by decide +kernel) rfl, TB_in 598 (by decide +kernel) rfl⟩, ⟨by decide +kernel, by decide⟩, by decide, rfl⟩
theorem mB_MX5_isReserved : mB MX5_isReserved := ⟨⟨TB_in 535 (by decide +kernel) rfl, cini_5⟩, cn_5.1, cn_5.2, rfl⟩
theorem mV_MX5_isReserved : mV MX5_isReserved := ⟨⟨TB_in 533 (by decide +kernel) rfl, TB_in 534 (by decide +kernel) rfl⟩, ⟨by decide +kernel, by decide⟩, by decide, rfl⟩
theorem mB_MX5_isSameWord : mB MX5_isSameWord := ⟨⟨TB_in 555 (by decide +kernel) rfl, cini_5⟩, cn_5.1, cn_5.2, rfl⟩
theorem mV_MX5_isSameWord : mV MX5_isSameWord := ⟨⟨TB_in 553 (by decide +kernel) rfl, TB_in 554 (by decide +kernel) rfl⟩, ⟨by decide +kernel, by decide⟩, by decide, rfl⟩
theorem mB_MX5_byteAt : mB MX5_byteAt := ⟨⟨TB_in 498 (by decide +kernel) rfl, cini_5⟩, cn_5.1, cn_5.2, rfl⟩
theorem mV_MX5_byteAt : mV MX5_byteAt := ⟨⟨TB_in 496 (by decide +kernel) rfl, TB_in 497 (by decide +kernel) rfl⟩, ⟨by decide +kernel, by decide⟩, by decide, rfl⟩
theorem mB_MX5_isBlank : mB MX5_isBlank := ⟨⟨TB_in 501 (by decide +kernel) rfl, cini_5⟩, cn_5.1, cn_5.2, rfl⟩
theorem mS_MX5_isBlank : mS MX5_isBlank := ⟨TB_in 500 (by decide +kernel) rfl, by decide +kernel⟩
theorem mB_MX5_isLetter : mB MX5_isLetter := ⟨⟨TB_in 504 (by decide +kernel) rfl, cini_5⟩, cn_5.1, cn_5.2, rfl⟩
theorem mS_MX5_isLetter : mS MX5_isLetter := ⟨TB_in 503 (by decide +kernel) rfl, by decide +kernel⟩
theorem mB_MX5_isDigit : mB MX5_isDigit := ⟨⟨TB_in 507 (by decide +kernel) rfl, cini_5⟩, cn_5.1, cn_5.2, rfl⟩
theorem mS_MX5_isDigit : mS MX5_isDigit := ⟨TB_in 506 (by decide +kernel) rfl, by decide +kernel⟩
theorem mB_MX5_init : mB MX5_init := ⟨⟨TB_in 35 (by decide +kernel) rfl, cini_5⟩, cn_5.1, cn_5.2, rfl⟩
theorem mC_MX5_init : mC MX5_init := ⟨TB_in 34 (by decide +kernel) rfl, ⟨by decide +kernel, by decide⟩, rfl, rfl⟩
theorem mB_MX5_append : mB MX5_append := ⟨⟨TB_in 477 (by decide +kernel) rfl, cini_5⟩, cn_5.1, cn_5.2, rfl⟩
theorem mV_MX5_append : mV MX5_append := ⟨⟨TB_in 475 (by decide +kernel) rfl, TB_in 476 (by decide +kernel) rfl⟩, ⟨by decide +kernel, by decide⟩, by decide, rfl⟩
theorem mB_MX5_readText : mB MX5_readText := ⟨⟨TB_in 490 (by decide +kernel) rfl, cini_5⟩, cn_5.1, cn_5.2, rfl⟩
theorem mV_MX5_readText : mV MX5_readText := ⟨⟨TB_in 488 (by decide +kernel) rfl, TB_in 489 (by decide +kernel) rfl⟩, ⟨by decide +kernel, by decide⟩, by decide, rfl⟩
theorem mB_MX6_sieveAt : mB MX6_sieveAt := ⟨⟨TB_in 264 (by decide +kernel) rfl, cini_6⟩, cn_6.1, cn_6.2, rfl⟩
theorem mV_MX6_sieveAt : mV MX6_sieveAt := ⟨⟨TB_in 262 (by decide +kernel) rfl, TB_in 263 (by decide +kernel) rfl⟩, ⟨by decide +kernel, by decide⟩, by decide, rfl⟩
theorem mB_MX6_listAt : mB MX6_listAt := ⟨⟨TB_in 613 (by decide +kernel) rfl, cini_6⟩, cn_6.1, cn_6.2, rfl⟩
theorem mV_MX6_listAt : mV MX6_listAt := ⟨⟨TB_in 611 (by decide +kernel) rfl, TB_in 612 (by decide +kernel) rfl⟩, ⟨by decide +kernel, by decide⟩, by decide, rfl⟩
theorem mB_MX6_forgetOldest : mB MX6_forgetOldest := ⟨⟨TB_in 309 (by decide +kernel) rfl, cini_6⟩, cn_6.1, cn_6.2, rfl⟩
theorem mV_MX6_forgetOldest : mV MX6_forgetOldest := ⟨⟨TB_in 307 (by decide +kernel) rfl, TB_in 308 (by decide +kernel) rfl⟩, ⟨by decide +kernel, by decide⟩, by decide, rfl⟩
theorem mB_MX6_init : mB MX6_init := ⟨⟨TB_in 167 (by decide +kernel) rfl, cini_6⟩, cn_6.1, cn_6.2, rfl⟩
theorem mC_MX6_init : mC MX6_init := ⟨TB_in 166 (by decide +kernel) rfl, ⟨by decide +kernel, by decide⟩, rfl, rfl⟩
theorem mB_MX6_takeOver : mB MX6_takeOver := ⟨⟨TB_in 608 (by decide +kernel) rfl, cini_6⟩, cn_6.1, cn_6.2, rfl⟩
theorem mV_MX6_takeOver : mV MX6_takeOver := ⟨⟨TB_in 606 (by decide +kernel) rfl, TB_in 607 (by decide +kernel) rfl⟩, ⟨by decide +kernel, by decide⟩, by decide, rfl⟩
theorem mB_MX6_keepAct : mB MX6_keepAct := ⟨⟨TB_in 305 (by decide +kernel) rfl, cini_6⟩, cn_6.1, cn_6.2, rfl⟩
theorem mV_MX6_keepAct : mV MX6_keepAct := ⟨⟨TB_in 303 (by decide +kernel) rfl, TB_in 304 (by decide +kernel) rfl⟩, ⟨by decide +kernel, by decide⟩, by decide, rfl⟩
theorem mB_MX7_indexOf : mB MX7_indexOf := ⟨⟨TB_in 333 (by decide +kernel) rfl, cini_7⟩, cn_7.1, cn_7.2, rfl⟩
theorem mV_MX7_indexOf : mV MX7_indexOf := ⟨⟨TB_in 331 (by decide +kernel) rfl, TB_in 332 (by decide +kernel) rfl⟩, ⟨by decide +kernel, by decide⟩, by decide, rfl⟩
theorem mB_MX7_isHere : mB MX7_isHere := ⟨⟨TB_in 376 (by decide +kernel) rfl, cini_7⟩, cn_7.1, cn_7.2, rfl⟩
theorem mV_MX7_isHere : mV MX7_isHere := ⟨⟨TB_in 374 (by decide +kernel) rfl, TB_in 375 (by decide +kernel) rfl⟩, ⟨by decide +kernel, by decide⟩, by decide, rfl⟩
theorem mB_MX7_firstNumber : mB MX7_firstNumber := ⟨⟨TB_in 356 (by decide +kernel) rfl, cini_7⟩, cn_7.1, cn_7.2, rfl⟩
theorem mV_MX7_firstNumber : mV MX7_firstNumber := ⟨⟨TB_in 354 (by decide +kernel) rfl, TB_in 355 (by decide +kernel) rfl⟩, ⟨by decide +kernel, by decide⟩, by decide, rfl⟩
theorem mB_MX7_init : mB MX7_init := ⟨⟨TB_in 44 (by decide +kernel) rfl, cini_7⟩, cn_7.1, cn_7.2, rfl⟩
theorem mC_MX7_init : mC MX7_init := ⟨TB_in 43 (by decide +kernel) rfl, ⟨by decide +kernel, by decide⟩, rfl, rfl⟩
theorem mB_MX7_set : mB MX7_set := ⟨⟨TB_in 571 (by decide +kernel) rfl, cini_7⟩, cn_7.1, cn_7.2, rfl⟩
theorem mV_MX7_set : mV MX7_set := ⟨⟨TB_in 569 (by decide +kernel) rfl, TB_in 570 (by decide +kernel) rfl⟩, ⟨by decide +kernel, by decide⟩, by decide, rfl⟩
theorem mB_MX7_takeOver : mB MX7_takeOver := ⟨⟨TB_in 318 (by decide +kernel) rfl, cini_7⟩, cn_7.1, cn_7.2, rfl⟩
theorem mV_MX7_takeOver : mV MX7_takeOver := ⟨⟨TB_in 316 (by decide +kernel) rfl, TB_in 317 (by decide +kernel) rfl⟩, ⟨by decide +kernel, by decide⟩, by decide, rfl⟩
theorem mB_MX7_begin : mB MX7_begin := ⟨⟨TB_in 575 (by decide +kernel) rfl, cini_7⟩, cn_7.1, cn_7.2, rfl⟩
theorem mV_MX7_begin : mV MX7_begin := ⟨⟨TB_in 573 (by decide +kernel) rfl, TB_in 574 (by decide +kernel) rfl⟩, ⟨by decide +kernel, by decide⟩, by decide, rfl⟩
theorem mB_MX7_nextGap : mB MX7_nextGap := ⟨⟨TB_in 273 (by decide +kernel) rfl, cini_7⟩, cn_7.1, cn_7.2, rfl⟩
theorem mV_MX7_nextGap : mV MX7_nextGap := ⟨⟨TB_in 271 (by decide +kernel) rfl, TB_in 272 (by decide +kernel) rfl⟩, ⟨by decide +kernel, by decide⟩, by decide, rfl⟩
theorem mB_MX7_numberAt : mB MX7_numberAt := ⟨⟨TB_in 284 (by decide +kernel) rfl, cini_7⟩, cn_7.1, cn_7.2, rfl⟩
theorem mV_MX7_numberAt : mV MX7_numberAt := ⟨⟨TB_in 282 (by decide +kernel) rfl, TB_in 283 (by decide +kernel) rfl⟩, ⟨by decide +kernel, by decide⟩, by decide, rfl⟩
theorem mB_MX7_has : mB MX7_has := ⟨⟨TB_in 372 (by decide +kernel) rfl, cini_7⟩, cn_7.1, cn_7.2, rfl⟩
theorem mV_MX7_has : mV MX7_has := ⟨⟨TB_in 370 (by decide +kernel) rfl, TB_in 371 (by decide +kernel) rfl⟩, ⟨by decide +kernel, by decide⟩, by decide, rfl⟩
theorem mB_MX7_countUpTo : mB MX7_countUpTo := ⟨⟨TB_in 381 (by decide +kernel) rfl, cini_7⟩, cn_7.1, cn_7.2, rfl⟩
theorem mV_MX7_countUpTo : mV MX7_countUpTo := ⟨⟨TB_in 379 (by decide +kernel) rfl, TB_in 380 (by decide +kernel) rfl⟩, ⟨by decide +kernel, by decide⟩, by decide, rfl⟩
theorem mB_MX7_gapByLaw : mB MX7_gapByLaw := ⟨⟨TB_in 277 (by decide +kernel) rfl, cini_7⟩, cn_7.1, cn_7.2, rfl⟩
theorem mV_MX7_gapByLaw : mV MX7_gapByLaw := ⟨⟨TB_in 275 (by decide +kernel) rfl, TB_in 276 (by decide +kernel) rfl⟩, ⟨by decide +kernel, by decide⟩, by decide, rfl⟩
theorem mB_MX7_strikesAny : mB MX7_strikesAny := ⟨⟨TB_in 289 (by decide +kernel) rfl, cini_7⟩, cn_7.1, cn_7.2, rfl⟩
theorem mV_MX7_strikesAny : mV MX7_strikesAny := ⟨⟨TB_in 287 (by decide +kernel) rfl, TB_in 288 (by decide +kernel) rfl⟩, ⟨by decide +kernel, by decide⟩, by decide, rfl⟩
theorem mB_MX7_strikesPlace : mB MX7_strikesPlace := ⟨⟨TB_in 293 (by decide +kernel) rfl, cini_7⟩, cn_7.1, cn_7.2, rfl⟩
theorem mV_MX7_strikesPlace : mV MX7_strikesPlace := ⟨⟨TB_in 291 (by decide +kernel) rfl, TB_in 292 (by decide +kernel) rfl⟩, ⟨by decide +kernel, by decide⟩, by decide, rfl⟩
theorem mB_MX7_sweep : mB MX7_sweep := ⟨⟨TB_in 329 (by decide +kernel) rfl, cini_7⟩, cn_7.1, cn_7.2, rfl⟩
theorem mV_MX7_sweep : mV MX7_sweep := ⟨⟨TB_in 327 (by decide +kernel) rfl, TB_in 328 (by decide +kernel) rfl⟩, ⟨by decide +kernel, by decide⟩, by decide, rfl⟩
theorem mB_MX7_closeUp : mB MX7_closeUp := ⟨⟨TB_in 389 (by decide +kernel) rfl, cini_7⟩, cn_7.1, cn_7.2, rfl⟩
theorem mV_MX7_closeUp : mV MX7_closeUp := ⟨⟨TB_in 387 (by decide +kernel) rfl, TB_in 388 (by decide +kernel) rfl⟩, ⟨by decide +kernel, by decide⟩, by decide, rfl⟩
theorem mB_MX7_property : mB MX7_property := ⟨⟨TB_in 269 (by decide +kernel) rfl, cini_7⟩, cn_7.1, cn_7.2, rfl⟩
theorem mV_MX7_property : mV MX7_property := ⟨⟨TB_in 267 (by decide +kernel) rfl, TB_in 268 (by decide +kernel) rfl⟩, ⟨by decide +kernel, by decide⟩, by decide, rfl⟩
theorem mB_MX7_sweepAtMost : mB MX7_sweepAtMost := ⟨⟨TB_in 325 (by decide +kernel) rfl, cini_7⟩, cn_7.1, cn_7.2, rfl⟩
theorem mV_MX7_sweepAtMost : mV MX7_sweepAtMost := ⟨⟨TB_in 323 (by decide +kernel) rfl, TB_in 324 (by decide +kernel) rfl⟩, ⟨by decide +kernel, by decide⟩, by decide, rfl⟩
theorem mB_MX7_placeOf : mB MX7_placeOf := ⟨⟨TB_in 368 (by decide +kernel) rfl, cini_7⟩, cn_7.1, cn_7.2, rfl⟩
theorem mV_MX7_placeOf : mV MX7_placeOf := ⟨⟨TB_in 366 (by decide +kernel) rfl, TB_in 367 (by decide +kernel) rfl⟩, ⟨by decide +kernel, by decide⟩, by decide, rfl⟩
theorem mB_MX7_takeOut : mB MX7_takeOut := ⟨⟨TB_in 385 (by decide +kernel) rfl, cini_7⟩, cn_7.1, cn_7.2, rfl⟩
theorem mV_MX7_takeOut : mV MX7_takeOut := ⟨⟨TB_in 383 (by decide +kernel) rfl, TB_in 384 (by decide +kernel) rfl⟩, ⟨by decide +kernel, by decide⟩, by decide, rfl⟩
theorem mB_MX9_feed : mB MX9_feed := ⟨⟨TB_in 473 (by decide +kernel) rfl, cini_9⟩, cn_9.1, cn_9.2, rfl⟩
theorem mV_MX9_feed : mV MX9_feed := ⟨⟨TB_in 471 (by decide +kernel) rfl, TB_in 472 (by decide +kernel) rfl⟩, ⟨by decide +kernel, by decide⟩, by decide, rfl⟩
theorem mB_MX9_load : mB MX9_load := ⟨⟨TB_in 486 (by decide +kernel) rfl, cini_9⟩, cn_9.1, cn_9.2, rfl⟩
theorem mV_MX9_load : mV MX9_load := ⟨⟨TB_in 484 (by decide +kernel) rfl, TB_in 485 (by decide +kernel) rfl⟩, ⟨by decide +kernel, by decide⟩, by decide, rfl⟩
theorem mB_MX9_sieve : mB MX9_sieve := ⟨⟨TB_in 260 (by decide +kernel) rfl, cini_9⟩, cn_9.1, cn_9.2, rfl⟩
theorem mV_MX9_sieve : mV MX9_sieve := ⟨⟨TB_in 258 (by decide +kernel) rfl, TB_in 259 (by decide +kernel) rfl⟩, ⟨by decide +kernel, by decide⟩, by decide, rfl⟩
theorem mB_MX9_number : mB MX9_number := ⟨⟨TB_in 394 (by decide +kernel) rfl, cini_9⟩, cn_9.1, cn_9.2, rfl⟩
theorem mV_MX9_number : mV MX9_number := ⟨⟨TB_in 392 (by decide +kernel) rfl, TB_in 393 (by decide +kernel) rfl⟩, ⟨by decide +kernel, by decide⟩, by decide, rfl⟩
theorem mB_MX9_round : mB MX9_round := ⟨⟨TB_in 878 (by decide +kernel) rfl, cini_9⟩, cn_9.1, cn_9.2, rfl⟩
theorem mV_MX9_round : mV MX9_round := ⟨⟨TB_in 876 (by decide +kernel) rfl, TB_in 877 (by decide +kernel) rfl⟩, ⟨by decide +kernel, by decide⟩, by decide, rfl⟩
theorem mB_MX9_status : mB MX9_status := ⟨⟨TB_in 237 (by decide +kernel) rfl, cini_9⟩, cn_9.1, cn_9.2, rfl⟩
theorem mV_MX9_status : mV MX9_status := ⟨⟨TB_in 235 (by decide +kernel) rfl, TB_in 236 (by decide +kernel) rfl⟩, ⟨by decide +kernel, by decide⟩, by decide, rfl⟩
theorem mB_MX9_all : mB MX9_all := ⟨⟨TB_in 300 (by decide +kernel) rfl, cini_9⟩, cn_9.1, cn_9.2, rfl⟩
theorem mV_MX9_all : mV MX9_all := ⟨⟨TB_in 298 (by decide +kernel) rfl, TB_in 299 (by decide +kernel) rfl⟩, ⟨by decide +kernel, by decide⟩, by decide, rfl⟩
theorem mB_MX9_told : mB MX9_told := ⟨⟨TB_in 338 (by decide +kernel) rfl, cini_9⟩, cn_9.1, cn_9.2, rfl⟩
theorem mV_MX9_told : mV MX9_told := ⟨⟨TB_in 336 (by decide +kernel) rfl, TB_in 337 (by decide +kernel) rfl⟩, ⟨by decide +kernel, by decide⟩, by decide, rfl⟩
theorem mB_MX9_back : mB MX9_back := ⟨⟨TB_in 886 (by decide +kernel) rfl, cini_9⟩, cn_9.1, cn_9.2, rfl⟩
theorem mV_MX9_back : mV MX9_back := ⟨⟨TB_in 884 (by decide +kernel) rfl, TB_in 885 (by decide +kernel) rfl⟩, ⟨by decide +kernel, by decide⟩, by decide, rfl⟩
theorem mB_MX9_ahead : mB MX9_ahead := ⟨⟨TB_in 896 (by decide +kernel) rfl, cini_9⟩, cn_9.1, cn_9.2, rfl⟩
theorem mV_MX9_ahead : mV MX9_ahead := ⟨⟨TB_in 894 (by decide +kernel) rfl, TB_in 895 (by decide +kernel) rfl⟩, ⟨by decide +kernel, by decide⟩, by decide, rfl⟩
theorem mB_MX9_rank : mB MX9_rank := ⟨⟨TB_in 399 (by decide +kernel) rfl, cini_9⟩, cn_9.1, cn_9.2, rfl⟩
theorem mV_MX9_rank : mV MX9_rank := ⟨⟨TB_in 397 (by decide +kernel) rfl, TB_in 398 (by decide +kernel) rfl⟩, ⟨by decide +kernel, by decide⟩, by decide, rfl⟩
theorem mB_MX9_fate : mB MX9_fate := ⟨⟨TB_in 903 (by decide +kernel) rfl, cini_9⟩, cn_9.1, cn_9.2, rfl⟩
theorem mV_MX9_fate : mV MX9_fate := ⟨⟨TB_in 901 (by decide +kernel) rfl, TB_in 902 (by decide +kernel) rfl⟩, ⟨by decide +kernel, by decide⟩, by decide, rfl⟩
theorem mB_MX9_upTo : mB MX9_upTo := ⟨⟨TB_in 918 (by decide +kernel) rfl, cini_9⟩, cn_9.1, cn_9.2, rfl⟩
theorem mV_MX9_upTo : mV MX9_upTo := ⟨⟨TB_in 916 (by decide +kernel) rfl, TB_in 917 (by decide +kernel) rfl⟩, ⟨by decide +kernel, by decide⟩, by decide, rfl⟩
theorem mB_MX9_balance : mB MX9_balance := ⟨⟨TB_in 923 (by decide +kernel) rfl, cini_9⟩, cn_9.1, cn_9.2, rfl⟩
theorem mV_MX9_balance : mV MX9_balance := ⟨⟨TB_in 921 (by decide +kernel) rfl, TB_in 922 (by decide +kernel) rfl⟩, ⟨by decide +kernel, by decide⟩, by decide, rfl⟩
theorem mB_MX9_gone : mB MX9_gone := ⟨⟨TB_in 928 (by decide +kernel) rfl, cini_9⟩, cn_9.1, cn_9.2, rfl⟩
theorem mV_MX9_gone : mV MX9_gone := ⟨⟨TB_in 926 (by decide +kernel) rfl, TB_in 927 (by decide +kernel) rfl⟩, ⟨by decide +kernel, by decide⟩, by decide, rfl⟩
theorem mB_MX9_init : mB MX9_init := ⟨⟨TB_in 27 (by decide +kernel) rfl, cini_9⟩, cn_9.1, cn_9.2, rfl⟩
theorem mC_MX9_init : mC MX9_init := ⟨TB_in 26 (by decide +kernel) rfl, ⟨by decide +kernel, by decide⟩, rfl, rfl⟩
theorem mB_MX9_many : mB MX9_many := ⟨⟨TB_in 245 (by decide +kernel) rfl, cini_9⟩, cn_9.1, cn_9.2, rfl⟩
theorem mV_MX9_many : mV MX9_many := ⟨⟨TB_in 243 (by decide +kernel) rfl, TB_in 244 (by decide +kernel) rfl⟩, ⟨by decide +kernel, by decide⟩, by decide, rfl⟩
theorem mB_MX9_strike : mB MX9_strike := ⟨⟨TB_in 364 (by decide +kernel) rfl, cini_9⟩, cn_9.1, cn_9.2, rfl⟩
theorem mV_MX9_strike : mV MX9_strike := ⟨⟨TB_in 362 (by decide +kernel) rfl, TB_in 363 (by decide +kernel) rfl⟩, ⟨by decide +kernel, by decide⟩, by decide, rfl⟩
theorem mB_MX9_would : mB MX9_would := ⟨⟨TB_in 403 (by decide +kernel) rfl, cini_9⟩, cn_9.1, cn_9.2, rfl⟩
theorem mV_MX9_would : mV MX9_would := ⟨⟨TB_in 401 (by decide +kernel) rfl, TB_in 402 (by decide +kernel) rfl⟩, ⟨by decide +kernel, by decide⟩, by decide, rfl⟩
theorem mB_MX9_fault : mB MX9_fault := ⟨⟨TB_in 241 (by decide +kernel) rfl, cini_9⟩, cn_9.1, cn_9.2, rfl⟩
theorem mV_MX9_fault : mV MX9_fault := ⟨⟨TB_in 239 (by decide +kernel) rfl, TB_in 240 (by decide +kernel) rfl⟩, ⟨by decide +kernel, by decide⟩, by decide, rfl⟩
theorem mB_MX9_copyCells : mB MX9_copyCells := ⟨⟨TB_in 321 (by decide +kernel) rfl, cini_9⟩, cn_9.1, cn_9.2, rfl⟩
theorem mS_MX9_copyCells : mS MX9_copyCells := ⟨TB_in 320 (by decide +kernel) rfl, by decide +kernel⟩
theorem mB_MX9_put : mB MX9_put := ⟨⟨TB_in 313 (by decide +kernel) rfl, cini_9⟩, cn_9.1, cn_9.2, rfl⟩
theorem mS_MX9_put : mS MX9_put := ⟨TB_in 312 (by decide +kernel) rfl, by decide +kernel⟩
theorem mB_MX9_within : mB MX9_within := ⟨⟨TB_in 248 (by decide +kernel) rfl, cini_9⟩, cn_9.1, cn_9.2, rfl⟩
theorem mS_MX9_within : mS MX9_within := ⟨TB_in 247 (by decide +kernel) rfl, by decide +kernel⟩
theorem mB_MX9_at : mB MX9_at := ⟨⟨TB_in 280 (by decide +kernel) rfl, cini_9⟩, cn_9.1, cn_9.2, rfl⟩
theorem mS_MX9_at : mS MX9_at := ⟨TB_in 279 (by decide +kernel) rfl, by decide +kernel⟩
theorem mB_MX9_remainder : mB MX9_remainder := ⟨⟨TB_in 296 (by decide +kernel) rfl, cini_9⟩, cn_9.1, cn_9.2, rfl⟩
theorem mS_MX9_remainder : mS MX9_remainder := ⟨TB_in 295 (by decide +kernel) rfl, by decide +kernel⟩
theorem mB_MX9_fail : mB MX9_fail := ⟨⟨TB_in 252 (by decide +kernel) rfl, cini_9⟩, cn_9.1, cn_9.2, rfl⟩
theorem mV_MX9_fail : mV MX9_fail := ⟨⟨TB_in 251 (by decide +kernel) rfl, TB_in 0 (by decide +kernel) rfl⟩, ⟨by decide +kernel, by decide⟩, by decide, rfl⟩
theorem mB_MX9_succeed : mB MX9_succeed := ⟨⟨TB_in 256 (by decide +kernel) rfl, cini_9⟩, cn_9.1, cn_9.2, rfl⟩
theorem mV_MX9_succeed : mV MX9_succeed := ⟨⟨TB_in 255 (by decide +kernel) rfl, TB_in 1 (by decide +kernel) rfl⟩, ⟨by decide +kernel, by decide⟩, by decide, rfl⟩
theorem mB_MX9_answer : mB MX9_answer := ⟨⟨TB_in 360 (by decide +kernel) rfl, cini_9⟩, cn_9.1, cn_9.2, rfl⟩
theorem mV_MX9_answer : mV MX9_answer := ⟨⟨TB_in 359 (by decide +kernel) rfl, TB_in 2 (by decide +kernel) rfl⟩, ⟨by decide +kernel, by decide⟩, by decide, rfl⟩
theorem mB_MX9_finishTrial : mB MX9_finishTrial := ⟨⟨TB_in 407 (by decide +kernel) rfl, cini_9⟩, cn_9.1, cn_9.2, rfl⟩
theorem mV_MX9_finishTrial : mV MX9_finishTrial := ⟨⟨TB_in 406 (by decide +kernel) rfl, TB_in 3 (by decide +kernel) rfl⟩, ⟨by decide +kernel, by decide⟩, by decide, rfl⟩
theorem mB_ML_feed : mB ML_feed := ⟨⟨TB_in 421 (by decide +kernel) rfl, cini_11⟩, cn_11.1, cn_11.2, rfl⟩
theorem mS_ML_feed : mS ML_feed := ⟨TB_in 420 (by decide +kernel) rfl, by decide +kernel⟩
theorem mB_ML_part : mB ML_part := ⟨⟨TB_in 414 (by decide +kernel) rfl, cini_11⟩, cn_11.1, cn_11.2, rfl⟩
theorem mS_ML_part : mS ML_part := ⟨TB_in 413 (by decide +kernel) rfl, by decide +kernel⟩
theorem mB_ML_cell : mB ML_cell := ⟨⟨TB_in 411 (by decide +kernel) rfl, cini_11⟩, cn_11.1, cn_11.2, rfl⟩
theorem mS_ML_cell : mS ML_cell := ⟨TB_in 410 (by decide +kernel) rfl, by decide +kernel⟩
theorem mB_ML_says : mB ML_says := ⟨⟨TB_in 799 (by decide +kernel) rfl, cini_11⟩, cn_11.1, cn_11.2, rfl⟩
theorem mS_ML_says : mS ML_says := ⟨TB_in 798 (by decide +kernel) rfl, by decide +kernel⟩
theorem mB_ML_row : mB ML_row := ⟨⟨TB_in 868 (by decide +kernel) rfl, cini_11⟩, cn_11.1, cn_11.2, rfl⟩
theorem mS_ML_row : mS ML_row := ⟨TB_in 867 (by decide +kernel) rfl, by decide +kernel⟩
theorem mB_ML_gapOf : mB ML_gapOf := ⟨⟨TB_in 871 (by decide +kernel) rfl, cini_11⟩, cn_11.1, cn_11.2, rfl⟩
theorem mS_ML_gapOf : mS ML_gapOf := ⟨TB_in 870 (by decide +kernel) rfl, by decide +kernel⟩
theorem mB_ML_strikes : mB ML_strikes := ⟨⟨TB_in 874 (by decide +kernel) rfl, cini_11⟩, cn_11.1, cn_11.2, rfl⟩
theorem mS_ML_strikes : mS ML_strikes := ⟨TB_in 873 (by decide +kernel) rfl, by decide +kernel⟩
theorem mB_ML_leads : mB ML_leads := ⟨⟨TB_in 882 (by decide +kernel) rfl, cini_11⟩, cn_11.1, cn_11.2, rfl⟩
theorem mS_ML_leads : mS ML_leads := ⟨TB_in 881 (by decide +kernel) rfl, by decide +kernel⟩
theorem mB_ML_sieves : mB ML_sieves := ⟨⟨TB_in 623 (by decide +kernel) rfl, cini_11⟩, cn_11.1, cn_11.2, rfl⟩
theorem mS_ML_sieves : mS ML_sieves := ⟨TB_in 622 (by decide +kernel) rfl, by decide +kernel⟩
theorem mB_ML_load : mB ML_load := ⟨⟨TB_in 418 (by decide +kernel) rfl, cini_11⟩, cn_11.1, cn_11.2, rfl⟩
theorem mS_ML_load : mS ML_load := ⟨TB_in 417 (by decide +kernel) rfl, by decide +kernel⟩
theorem mB_ML_isRound : mB ML_isRound := ⟨⟨TB_in 865 (by decide +kernel) rfl, cini_11⟩, cn_11.1, cn_11.2, rfl⟩
theorem mS_ML_isRound : mS ML_isRound := ⟨TB_in 864 (by decide +kernel) rfl, by decide +kernel⟩
theorem mB_ML_areAll : mB ML_areAll := ⟨⟨TB_in 914 (by decide +kernel) rfl, cini_11⟩, cn_11.1, cn_11.2, rfl⟩
theorem mS_ML_areAll : mS ML_areAll := ⟨TB_in 913 (by decide +kernel) rfl, by decide +kernel⟩
theorem mB_MJ6_stringSize_0f7a4 : mB MJ6_stringSize_0f7a4 := ⟨⟨TB_in 779 (by decide +kernel) rfl, cini_12⟩, cn_12.1, cn_12.2, rfl⟩
theorem mS_MJ6_stringSize_0f7a4 : mS MJ6_stringSize_0f7a4 := ⟨TB_in 778 (by decide +kernel) rfl, by decide +kernel⟩
theorem mB_MJ6_getChars_ba4f3 : mB MJ6_getChars_ba4f3 := ⟨⟨TB_in 782 (by decide +kernel) rfl, cini_12⟩, cn_12.1, cn_12.2, rfl⟩
theorem mS_MJ6_getChars_ba4f3 : mS MJ6_getChars_ba4f3 := ⟨TB_in 781 (by decide +kernel) rfl, by decide +kernel⟩
theorem mB_MJ0_length_8abf5 : mB MJ0_length_8abf5 := ⟨⟨TB_in 425 (by decide +kernel) rfl, cini_14⟩, cn_14.1, cn_14.2, rfl⟩
theorem mV_MJ0_length_8abf5 : mV MJ0_length_8abf5 := ⟨⟨TB_in 423 (by decide +kernel) rfl, TB_in 424 (by decide +kernel) rfl⟩, ⟨by decide +kernel, by decide⟩, by decide, rfl⟩
theorem mB_MJ0_charAt_5068e : mB MJ0_charAt_5068e := ⟨⟨TB_in 435 (by decide +kernel) rfl, cini_14⟩, cn_14.1, cn_14.2, rfl⟩
theorem mV_MJ0_charAt_5068e : mV MJ0_charAt_5068e := ⟨⟨TB_in 433 (by decide +kernel) rfl, TB_in 434 (by decide +kernel) rfl⟩, ⟨by decide +kernel, by decide⟩, by decide, rfl⟩
theorem mB_MJ0_coder_7d493 : mB MJ0_coder_7d493 := ⟨⟨TB_in 429 (by decide +kernel) rfl, cini_14⟩, cn_14.1, cn_14.2, rfl⟩
theorem mV_MJ0_coder_7d493 : mV MJ0_coder_7d493 := ⟨⟨TB_in 427 (by decide +kernel) rfl, TB_in 428 (by decide +kernel) rfl⟩, ⟨by decide +kernel, by decide⟩, by decide, rfl⟩
theorem mB_MJ0_init_db425 : mB MJ0_init_db425 := ⟨⟨TB_in 817 (by decide +kernel) rfl, cini_14⟩, cn_14.1, cn_14.2, rfl⟩
theorem mC_MJ0_init_db425 : mC MJ0_init_db425 := ⟨TB_in 816 (by decide +kernel) rfl, ⟨by decide +kernel, by decide⟩, rfl, rfl⟩
theorem mB_MJ0_isLatin1_aae02 : mB MJ0_isLatin1_aae02 := ⟨⟨TB_in 439 (by decide +kernel) rfl, cini_14⟩, cn_14.1, cn_14.2, rfl⟩
theorem mV_MJ0_isLatin1_aae02 : mV MJ0_isLatin1_aae02 := ⟨⟨TB_in 437 (by decide +kernel) rfl, TB_in 438 (by decide +kernel) rfl⟩, ⟨by decide +kernel, by decide⟩, by decide, rfl⟩
theorem mB_MJ0_checkIndex_df160 : mB MJ0_checkIndex_df160 := ⟨⟨TB_in 445 (by decide +kernel) rfl, cini_14⟩, cn_14.1, cn_14.2, rfl⟩
theorem mS_MJ0_checkIndex_df160 : mS MJ0_checkIndex_df160 := ⟨TB_in 444 (by decide +kernel) rfl, by decide +kernel⟩
theorem mB_MJ0_getBytes_840e7 : mB MJ0_getBytes_840e7 := ⟨⟨TB_in 753 (by decide +kernel) rfl, cini_14⟩, cn_14.1, cn_14.2, rfl⟩
theorem mV_MJ0_getBytes_840e7 : mV MJ0_getBytes_840e7 := ⟨⟨TB_in 751 (by decide +kernel) rfl, TB_in 752 (by decide +kernel) rfl⟩, ⟨by decide +kernel, by decide⟩, by decide, rfl⟩
theorem mB_MJ0_init_81219 : mB MJ0_init_81219 := ⟨⟨TB_in 814 (by decide +kernel) rfl, cini_14⟩, cn_14.1, cn_14.2, rfl⟩
theorem mC_MJ0_init_81219 : mC MJ0_init_81219 := ⟨TB_in 813 (by decide +kernel) rfl, ⟨by decide +kernel, by decide⟩, rfl, rfl⟩
theorem mB_MJ1_charAt_3b067 : mB MJ1_charAt_3b067 := ⟨⟨TB_in 442 (by decide +kernel) rfl, cini_15⟩, cn_15.1, cn_15.2, rfl⟩
theorem mS_MJ1_charAt_3b067 : mS MJ1_charAt_3b067 := ⟨TB_in 441 (by decide +kernel) rfl, by decide +kernel⟩
theorem mB_MJ1_canEncode_fc78d : mB MJ1_canEncode_fc78d := ⟨⟨TB_in 765 (by decide +kernel) rfl, cini_15⟩, cn_15.1, cn_15.2, rfl⟩
theorem mS_MJ1_canEncode_fc78d : mS MJ1_canEncode_fc78d := ⟨TB_in 764 (by decide +kernel) rfl, by decide +kernel⟩
theorem mB_MJ3_checkIndex_8e157 : mB MJ3_checkIndex_8e157 := ⟨⟨TB_in 450 (by decide +kernel) rfl, cini_17⟩, cn_17.1, cn_17.2, rfl⟩
theorem mS_MJ3_checkIndex_8e157 : mS MJ3_checkIndex_8e157 := ⟨TB_in 449 (by decide +kernel) rfl, by decide +kernel⟩
theorem mB_MJ5_getValue_6d5f1 : mB MJ5_getValue_6d5f1 := ⟨⟨TB_in 823 (by decide +kernel) rfl, cini_18⟩, cn_18.1, cn_18.2, rfl⟩
theorem mU_MJ5_getValue_6d5f1 : mU MJ5_getValue_6d5f1 := ⟨⟨TB_in 820 (by decide +kernel) rfl, TB_in 822 (by decide +kernel) rfl, TB_in 821 (by decide +kernel) rfl⟩, ⟨by decide +kernel, by decide⟩, rfl⟩
theorem mB_MJ5_isLatin1_aae02 : mB MJ5_isLatin1_aae02 := ⟨⟨TB_in 705 (by decide +kernel) rfl, cini_18⟩, cn_18.1, cn_18.2, rfl⟩
theorem mU_MJ5_isLatin1_aae02 : mU MJ5_isLatin1_aae02 := ⟨⟨TB_in 702 (by decide +kernel) rfl, TB_in 704 (by decide +kernel) rfl, TB_in 703 (by decide +kernel) rfl⟩, ⟨by decide +kernel, by decide⟩, rfl⟩
theorem mB_MJ5_ensureCapacityInternal_d00df : mB MJ5_ensureCapacityInternal_d00df := ⟨⟨TB_in 669 (by decide +kernel) rfl, cini_18⟩, cn_18.1, cn_18.2, rfl⟩
theorem mU_MJ5_ensureCapacityInternal_d00df : mU MJ5_ensureCapacityInternal_d00df := ⟨⟨TB_in 668 (by decide +kernel) rfl, TB_in 946 (by decide +kernel) rfl, TB_in 934 (by decide +kernel) rfl⟩, ⟨by decide +kernel, by decide⟩, rfl⟩
theorem mB_MJ5_newCapacity_0f7a4 : mB MJ5_newCapacity_0f7a4 := ⟨⟨TB_in 673 (by decide +kernel) rfl, cini_18⟩, cn_18.1, cn_18.2, rfl⟩
theorem mU_MJ5_newCapacity_0f7a4 : mU MJ5_newCapacity_0f7a4 := ⟨⟨TB_in 672 (by decide +kernel) rfl, TB_in 947 (by decide +kernel) rfl, TB_in 935 (by decide +kernel) rfl⟩, ⟨by decide +kernel, by decide⟩, rfl⟩
theorem mB_MJ5_putStringAt_47b60 : mB MJ5_putStringAt_47b60 := ⟨⟨TB_in 725 (by decide +kernel) rfl, cini_18⟩, cn_18.1, cn_18.2, rfl⟩
theorem mU_MJ5_putStringAt_47b60 : mU MJ5_putStringAt_47b60 := ⟨⟨TB_in 724 (by decide +kernel) rfl, TB_in 948 (by decide +kernel) rfl, TB_in 936 (by decide +kernel) rfl⟩, ⟨by decide +kernel, by decide⟩, rfl⟩
theorem mB_MJ5_inflateIfNeededFor_a7421 : mB MJ5_inflateIfNeededFor_a7421 := ⟨⟨TB_in 729 (by decide +kernel) rfl, cini_18⟩, cn_18.1, cn_18.2, rfl⟩
theorem mU_MJ5_inflateIfNeededFor_a7421 : mU MJ5_inflateIfNeededFor_a7421 := ⟨⟨TB_in 728 (by decide +kernel) rfl, TB_in 949 (by decide +kernel) rfl, TB_in 937 (by decide +kernel) rfl⟩, ⟨by decide +kernel, by decide⟩, rfl⟩
theorem mB_MJ5_init_d00df : mB MJ5_init_d00df := ⟨⟨TB_in 631 (by decide +kernel) rfl, cini_18⟩, cn_18.1, cn_18.2, rfl⟩
theorem mC_MJ5_init_d00df : mC MJ5_init_d00df := ⟨TB_in 630 (by decide +kernel) rfl, ⟨by decide +kernel, by decide⟩, rfl, rfl⟩
theorem mB_MJ5_append_cf1ce : mB MJ5_append_cf1ce := ⟨⟨TB_in 661 (by decide +kernel) rfl, cini_18⟩, cn_18.1, cn_18.2, rfl⟩
theorem mW_MJ5_append_cf1ce : mW MJ5_append_cf1ce := ⟨⟨TB_in 660 (by decide +kernel) rfl, TB_in 932 (by decide +kernel) rfl, TB_in 653 (by decide +kernel) rfl⟩, ⟨by decide +kernel, by decide⟩, by decide, rfl⟩
theorem mB_MJ5_append_3fe6f : mB MJ5_append_3fe6f := ⟨⟨TB_in 762 (by decide +kernel) rfl, cini_18⟩, cn_18.1, cn_18.2, rfl⟩
theorem mW_MJ5_append_3fe6f : mW MJ5_append_3fe6f := ⟨⟨TB_in 761 (by decide +kernel) rfl, TB_in 939 (by decide +kernel) rfl, TB_in 653 (by decide +kernel) rfl⟩, ⟨by decide +kernel, by decide⟩, by decide, rfl⟩
theorem mB_MJ5_append_c97b9 : mB MJ5_append_c97b9 := ⟨⟨TB_in 776 (by decide +kernel) rfl, cini_18⟩, cn_18.1, cn_18.2, rfl⟩
theorem mW_MJ5_append_c97b9 : mW MJ5_append_c97b9 := ⟨⟨TB_in 775 (by decide +kernel) rfl, TB_in 940 (by decide +kernel) rfl, TB_in 653 (by decide +kernel) rfl⟩, ⟨by decide +kernel, by decide⟩, by decide, rfl⟩
theorem mB_MJ5_length_8abf5 : mB MJ5_length_8abf5 := ⟨⟨TB_in 831 (by decide +kernel) rfl, cini_18⟩, cn_18.1, cn_18.2, rfl⟩
theorem mW_MJ5_length_8abf5 : mW MJ5_length_8abf5 := ⟨⟨TB_in 825 (by decide +kernel) rfl, TB_in 826 (by decide +kernel) rfl, TB_in 653 (by decide +kernel) rfl⟩, ⟨by decide +kernel, by decide⟩, by decide, rfl⟩
theorem mB_MJ4_append_15ec4 : mB MJ4_append_15ec4 := ⟨⟨TB_in 658 (by decide +kernel) rfl, cini_19⟩, cn_19.1, cn_19.2, rfl⟩
theorem mV_MJ4_append_15ec4 : mV MJ4_append_15ec4 := ⟨⟨TB_in 656 (by decide +kernel) rfl, TB_in 657 (by decide +kernel) rfl⟩, ⟨by decide +kernel, by decide⟩, by decide, rfl⟩
theorem mB_MJ4_append_bf812 : mB MJ4_append_bf812 := ⟨⟨TB_in 773 (by decide +kernel) rfl, cini_19⟩, cn_19.1, cn_19.2, rfl⟩
theorem mV_MJ4_append_bf812 : mV MJ4_append_bf812 := ⟨⟨TB_in 771 (by decide +kernel) rfl, TB_in 772 (by decide +kernel) rfl⟩, ⟨by decide +kernel, by decide⟩, by decide, rfl⟩
theorem mB_MJ4_append_cf468 : mB MJ4_append_cf468 := ⟨⟨TB_in 759 (by decide +kernel) rfl, cini_19⟩, cn_19.1, cn_19.2, rfl⟩
theorem mV_MJ4_append_cf468 : mV MJ4_append_cf468 := ⟨⟨TB_in 757 (by decide +kernel) rfl, TB_in 758 (by decide +kernel) rfl⟩, ⟨by decide +kernel, by decide⟩, by decide, rfl⟩
theorem mB_MJ4_init_da8c8 : mB MJ4_init_da8c8 := ⟨⟨TB_in 628 (by decide +kernel) rfl, cini_19⟩, cn_19.1, cn_19.2, rfl⟩
theorem mC_MJ4_init_da8c8 : mC MJ4_init_da8c8 := ⟨TB_in 627 (by decide +kernel) rfl, ⟨by decide +kernel, by decide⟩, rfl, rfl⟩
theorem mB_MJ4_toString_0e30d : mB MJ4_toString_0e30d := ⟨⟨TB_in 809 (by decide +kernel) rfl, cini_19⟩, cn_19.1, cn_19.2, rfl⟩
theorem mV_MJ4_toString_0e30d : mV MJ4_toString_0e30d := ⟨⟨TB_in 807 (by decide +kernel) rfl, TB_in 808 (by decide +kernel) rfl⟩, ⟨by decide +kernel, by decide⟩, by decide, rfl⟩
theorem mB_MJ4_length_8abf5 : mB MJ4_length_8abf5 := ⟨⟨TB_in 829 (by decide +kernel) rfl, cini_19⟩, cn_19.1, cn_19.2, rfl⟩
theorem mB_MJ7_copyOfRange_39247 : mB MJ7_copyOfRange_39247 := ⟨⟨TB_in 835 (by decide +kernel) rfl, cini_20⟩, cn_20.1, cn_20.2, rfl⟩
theorem mS_MJ7_copyOfRange_39247 : mS MJ7_copyOfRange_39247 := ⟨TB_in 834 (by decide +kernel) rfl, by decide +kernel⟩
theorem mB_MJ7_copyOf_9075b : mB MJ7_copyOf_9075b := ⟨⟨TB_in 687 (by decide +kernel) rfl, cini_20⟩, cn_20.1, cn_20.2, rfl⟩
theorem mS_MJ7_copyOf_9075b : mS MJ7_copyOf_9075b := ⟨TB_in 686 (by decide +kernel) rfl, by decide +kernel⟩
theorem mB_MJ7_copyOfRangeByte_39247 : mB MJ7_copyOfRangeByte_39247 := ⟨⟨TB_in 838 (by decide +kernel) rfl, cini_20⟩, cn_20.1, cn_20.2, rfl⟩
theorem mS_MJ7_copyOfRangeByte_39247 : mS MJ7_copyOfRangeByte_39247 := ⟨TB_in 837 (by decide +kernel) rfl, by decide +kernel⟩
theorem mB_MJ7_checkLength_df160 : mB MJ7_checkLength_df160 := ⟨⟨TB_in 841 (by decide +kernel) rfl, cini_20⟩, cn_20.1, cn_20.2, rfl⟩
theorem mS_MJ7_checkLength_df160 : mS MJ7_checkLength_df160 := ⟨TB_in 840 (by decide +kernel) rfl, by decide +kernel⟩
theorem mB_MJ8_newLength_cabcc : mB MJ8_newLength_cabcc := ⟨⟨TB_in 676 (by decide +kernel) rfl, cini_21⟩, cn_21.1, cn_21.2, rfl⟩
theorem mS_MJ8_newLength_cabcc : mS MJ8_newLength_cabcc := ⟨TB_in 675 (by decide +kernel) rfl, by decide +kernel⟩
theorem lF_0 : ∀ q ∈ lkT 0, LF 0 q.1 q.2 := fun _ h => absurd h List.not_mem_nil
theorem lF_1 : ∀ q ∈ lkT 1, LF 1 q.1 q.2 := fun _ h => absurd h List.not_mem_nil
theorem lf_2_19 : LF 2 19 (2, MX9_copyCells) := ⟨mB_MX9_copyCells, ⟨"SieveHouse", NW_in 619 (by decide +kernel) rfl⟩, mS_MX9_copyCells, by decide⟩
theorem lf_2_23 : LF 2 23 (2, MX9_put) := ⟨mB_MX9_put, ⟨"SieveHouse", NW_in 604 (by decide +kernel) rfl⟩, mS_MX9_put, by decide⟩
theorem lF_2 : ∀ q ∈ lkT 2, LF 2 q.1 q.2 := List.forall_mem_cons.mpr ⟨lf_2_19, List.forall_mem_cons.mpr ⟨lf_2_23, fun _ h => absurd h List.not_mem_nil⟩⟩
theorem lf_3_15 : LF 3 15 (2, MX9_within) := ⟨mB_MX9_within, ⟨"SieveHouse", NW_in 342 (by decide +kernel) rfl⟩, mS_MX9_within, by decide⟩
theorem lf_3_23 : LF 3 23 (2, MX9_at) := ⟨mB_MX9_at, ⟨"SieveHouse", NW_in 343 (by decide +kernel) rfl⟩, mS_MX9_at, by decide⟩
theorem lf_3_30 : LF 3 30 (1, MX3_countFrom) := ⟨mB_MX3_countFrom, TB_in 344 (by decide +kernel) rfl, mS_MX3_countFrom, by decide⟩
theorem lf_3_36 : LF 3 36 (1, MX3_firstStruckBy) := ⟨mB_MX3_firstStruckBy, TB_in 350 (by decide +kernel) rfl, mS_MX3_firstStruckBy, by decide⟩
theorem lf_3_39 : LF 3 39 (0, MX7_indexOf) := ⟨mB_MX7_indexOf, TB_in 907 (by decide +kernel) rfl, mV_MX7_indexOf, by decide⟩
theorem lf_3_43 : LF 3 43 (0, MX7_isHere) := ⟨mB_MX7_isHere, TB_in 908 (by decide +kernel) rfl, mV_MX7_isHere, by decide⟩
theorem lf_3_50 : LF 3 50 (1, MX3_roundOfEvent) := ⟨mB_MX3_roundOfEvent, TB_in 909 (by decide +kernel) rfl, mS_MX3_roundOfEvent, by decide⟩
theorem lf_3_53 : LF 3 53 (1, MX3_placeAhead) := ⟨mB_MX3_placeAhead, TB_in 347 (by decide +kernel) rfl, mS_MX3_placeAhead, by decide⟩
theorem lf_3_57 : LF 3 57 (1, MX3_indexAhead) := ⟨mB_MX3_indexAhead, TB_in 890 (by decide +kernel) rfl, mS_MX3_indexAhead, by decide⟩
theorem lf_3_63 : LF 3 63 (0, MX7_firstNumber) := ⟨mB_MX7_firstNumber, TB_in 353 (by decide +kernel) rfl, mV_MX7_firstNumber, by decide⟩
theorem lF_3 : ∀ q ∈ lkT 3, LF 3 q.1 q.2 := List.forall_mem_cons.mpr ⟨lf_3_15, List.forall_mem_cons.mpr ⟨lf_3_23, List.forall_mem_cons.mpr ⟨lf_3_30, List.forall_mem_cons.mpr ⟨lf_3_36, List.forall_mem_cons.mpr ⟨lf_3_39, List.forall_mem_cons.mpr ⟨lf_3_43, List.forall_mem_cons.mpr ⟨lf_3_50, List.forall_mem_cons.mpr ⟨lf_3_53, List.forall_mem_cons.mpr ⟨lf_3_57, List.forall_mem_cons.mpr ⟨lf_3_63, fun _ h => absurd h List.not_mem_nil⟩⟩⟩⟩⟩⟩⟩⟩⟩⟩
theorem lF_4 : ∀ q ∈ lkT 4, LF 4 q.1 q.2 := fun _ h => absurd h List.not_mem_nil
theorem lf_5_40 : LF 5 40 (4, MX7_init) := ⟨mB_MX7_init, ⟨"SieveHouse", NW_in 42 (by decide +kernel) rfl⟩, mC_MX7_init, by decide⟩
theorem lf_5_41 : LF 5 41 (4, MX2_init) := ⟨mB_MX2_init, ⟨"SieveHouse", NW_in 100 (by decide +kernel) rfl⟩, mC_MX2_init, by decide⟩
theorem lf_5_42 : LF 5 42 (2, MX9_within) := ⟨mB_MX9_within, ⟨"SieveHouse", NW_in 523 (by decide +kernel) rfl⟩, mS_MX9_within, by decide⟩
theorem lf_5_49 : LF 5 49 (0, MX5_appendInt) := ⟨mB_MX5_appendInt, TB_in 478 (by decide +kernel) rfl, mV_MX5_appendInt, by decide⟩
theorem lf_5_53 : LF 5 53 (2, MX9_put) := ⟨mB_MX9_put, ⟨"SieveHouse", NW_in 482 (by decide +kernel) rfl⟩, mS_MX9_put, by decide⟩
theorem lf_5_69 : LF 5 69 (0, MX5_look) := ⟨mB_MX5_look, TB_in 491 (by decide +kernel) rfl, mV_MX5_look, by decide⟩
theorem lf_5_77 : LF 5 77 (0, MX5_is) := ⟨mB_MX5_is, TB_in 509 (by decide +kernel) rfl, mV_MX5_is, by decide⟩
theorem lf_5_81 : LF 5 81 (0, MX5_readSieve) := ⟨mB_MX5_readSieve, TB_in 515 (by decide +kernel) rfl, mV_MX5_readSieve, by decide⟩
theorem lf_5_87 : LF 5 87 (0, MX5_readList) := ⟨mB_MX5_readList, TB_in 592 (by decide +kernel) rfl, mV_MX5_readList, by decide⟩
theorem lf_5_90 : LF 5 90 (0, MX5_unexpected) := ⟨mB_MX5_unexpected, TB_in 547 (by decide +kernel) rfl, mV_MX5_unexpected, by decide⟩
theorem lf_5_93 : LF 5 93 (0, MX5_sieveAt) := ⟨mB_MX5_sieveAt, TB_in 519 (by decide +kernel) rfl, mV_MX5_sieveAt, by decide⟩
theorem lf_5_97 : LF 5 97 (0, MX5_refuse) := ⟨mB_MX5_refuse, TB_in 524 (by decide +kernel) rfl, mV_MX5_refuse, by decide⟩
theorem lf_5_101 : LF 5 101 (0, MX5_readName) := ⟨mB_MX5_readName, TB_in 528 (by decide +kernel) rfl, mV_MX5_readName, by decide⟩
theorem lf_5_106 : LF 5 106 (0, MX5_readWord) := ⟨mB_MX5_readWord, TB_in 556 (by decide +kernel) rfl, mV_MX5_readWord, by decide⟩
theorem lf_5_109 : LF 5 109 (0, MX5_readNumber) := ⟨mB_MX5_readNumber, TB_in 560 (by decide +kernel) rfl, mV_MX5_readNumber, by decide⟩
theorem lf_5_117 : LF 5 117 (0, MX5_kindOfLaw) := ⟨mB_MX5_kindOfLaw, TB_in 564 (by decide +kernel) rfl, mV_MX5_kindOfLaw, by decide⟩
theorem lf_5_121 : LF 5 121 (0, MX7_set) := ⟨mB_MX7_set, TB_in 568 (by decide +kernel) rfl, mV_MX7_set, by decide⟩
theorem lf_5_125 : LF 5 125 (0, MX5_readFixed) := ⟨mB_MX5_readFixed, TB_in 576 (by decide +kernel) rfl, mV_MX5_readFixed, by decide⟩
theorem lf_5_129 : LF 5 129 (0, MX5_readTold) := ⟨mB_MX5_readTold, TB_in 580 (by decide +kernel) rfl, mV_MX5_readTold, by decide⟩
theorem lf_5_132 : LF 5 132 (0, MX5_readSign) := ⟨mB_MX5_readSign, TB_in 588 (by decide +kernel) rfl, mV_MX5_readSign, by decide⟩
theorem lf_5_155 : LF 5 155 (0, MX5_refuseSurplus) := ⟨mB_MX5_refuseSurplus, TB_in 584 (by decide +kernel) rfl, mV_MX5_refuseSurplus, by decide⟩
theorem lf_5_159 : LF 5 159 (0, MX5_listAt) := ⟨mB_MX5_listAt, TB_in 596 (by decide +kernel) rfl, mV_MX5_listAt, by decide⟩
theorem lf_5_166 : LF 5 166 (0, MX2_append) := ⟨mB_MX2_append, TB_in 600 (by decide +kernel) rfl, mV_MX2_append, by decide⟩
theorem lf_5_169 : LF 5 169 (0, MX5_isReserved) := ⟨mB_MX5_isReserved, TB_in 532 (by decide +kernel) rfl, mV_MX5_isReserved, by decide⟩
theorem lf_5_172 : LF 5 172 (2, MX9_at) := ⟨mB_MX9_at, ⟨"SieveHouse", NW_in 551 (by decide +kernel) rfl⟩, mS_MX9_at, by decide⟩
theorem lf_5_176 : LF 5 176 (0, MX5_isSameWord) := ⟨mB_MX5_isSameWord, TB_in 552 (by decide +kernel) rfl, mV_MX5_isSameWord, by decide⟩
theorem lf_5_185 : LF 5 185 (0, MX5_byteAt) := ⟨mB_MX5_byteAt, TB_in 495 (by decide +kernel) rfl, mV_MX5_byteAt, by decide⟩
theorem lf_5_189 : LF 5 189 (1, MX5_isBlank) := ⟨mB_MX5_isBlank, TB_in 499 (by decide +kernel) rfl, mS_MX5_isBlank, by decide⟩
theorem lf_5_192 : LF 5 192 (1, MX5_isLetter) := ⟨mB_MX5_isLetter, TB_in 502 (by decide +kernel) rfl, mS_MX5_isLetter, by decide⟩
theorem lf_5_195 : LF 5 195 (1, MX5_isDigit) := ⟨mB_MX5_isDigit, TB_in 505 (by decide +kernel) rfl, mS_MX5_isDigit, by decide⟩
theorem lf_5_198 : LF 5 198 (0, MJ0_length_8abf5) := ⟨mB_MJ0_length_8abf5, TB_in 513 (by decide +kernel) rfl, mV_MJ0_length_8abf5, by decide⟩
theorem lf_5_202 : LF 5 202 (0, MJ0_charAt_5068e) := ⟨mB_MJ0_charAt_5068e, TB_in 514 (by decide +kernel) rfl, mV_MJ0_charAt_5068e, by decide⟩
theorem lF_5 : ∀ q ∈ lkT 5, LF 5 q.1 q.2 := List.forall_mem_cons.mpr ⟨lf_5_40, List.forall_mem_cons.mpr ⟨lf_5_41, List.forall_mem_cons.mpr ⟨lf_5_42, List.forall_mem_cons.mpr ⟨lf_5_49, List.forall_mem_cons.mpr ⟨lf_5_53, List.forall_mem_cons.mpr ⟨lf_5_69, List.forall_mem_cons.mpr ⟨lf_5_77, List.forall_mem_cons.mpr ⟨lf_5_81, List.forall_mem_cons.mpr ⟨lf_5_87, List.forall_mem_cons.mpr ⟨lf_5_90, List.forall_mem_cons.mpr ⟨lf_5_93, List.forall_mem_cons.mpr ⟨lf_5_97, List.forall_mem_cons.mpr ⟨lf_5_101, List.forall_mem_cons.mpr ⟨lf_5_106, List.forall_mem_cons.mpr ⟨lf_5_109, List.forall_mem_cons.mpr ⟨lf_5_117, List.forall_mem_cons.mpr ⟨lf_5_121, List.forall_mem_cons.mpr ⟨lf_5_125, List.forall_mem_cons.mpr ⟨lf_5_129, List.forall_mem_cons.mpr ⟨lf_5_132, List.forall_mem_cons.mpr ⟨lf_5_155, List.forall_mem_cons.mpr ⟨lf_5_159, List.forall_mem_cons.mpr ⟨lf_5_166, List.forall_mem_cons.mpr ⟨lf_5_169, List.forall_mem_cons.mpr ⟨lf_5_172, List.forall_mem_cons.mpr ⟨lf_5_176, List.forall_mem_cons.mpr ⟨lf_5_185, List.forall_mem_cons.mpr ⟨lf_5_189, List.forall_mem_cons.mpr ⟨lf_5_192, List.forall_mem_cons.mpr ⟨lf_5_195, List.forall_mem_cons.mpr ⟨lf_5_198, List.forall_mem_cons.mpr ⟨lf_5_202, fun _ h => absurd h List.not_mem_nil⟩⟩⟩⟩⟩⟩⟩⟩⟩⟩⟩⟩⟩⟩⟩⟩⟩⟩⟩⟩⟩⟩⟩⟩⟩⟩⟩⟩⟩⟩⟩⟩
theorem lf_6_33 : LF 6 33 (4, MX7_init) := ⟨mB_MX7_init, ⟨"SieveHouse", NW_in 171 (by decide +kernel) rfl⟩, mC_MX7_init, by decide⟩
theorem lf_6_34 : LF 6 34 (4, MX2_init) := ⟨mB_MX2_init, ⟨"SieveHouse", NW_in 172 (by decide +kernel) rfl⟩, mC_MX2_init, by decide⟩
theorem lf_6_39 : LF 6 39 (2, MX9_within) := ⟨mB_MX9_within, ⟨"SieveHouse", NW_in 265 (by decide +kernel) rfl⟩, mS_MX9_within, by decide⟩
theorem lf_6_55 : LF 6 55 (0, MX6_sieveAt) := ⟨mB_MX6_sieveAt, TB_in 314 (by decide +kernel) rfl, mV_MX6_sieveAt, by decide⟩
theorem lf_6_59 : LF 6 59 (0, MX5_sieveAt) := ⟨mB_MX5_sieveAt, TB_in 609 (by decide +kernel) rfl, mV_MX5_sieveAt, by decide⟩
theorem lf_6_60 : LF 6 60 (0, MX7_takeOver) := ⟨mB_MX7_takeOver, TB_in 315 (by decide +kernel) rfl, mV_MX7_takeOver, by decide⟩
theorem lf_6_64 : LF 6 64 (0, MX6_listAt) := ⟨mB_MX6_listAt, TB_in 610 (by decide +kernel) rfl, mV_MX6_listAt, by decide⟩
theorem lf_6_68 : LF 6 68 (0, MX5_listAt) := ⟨mB_MX5_listAt, TB_in 614 (by decide +kernel) rfl, mV_MX5_listAt, by decide⟩
theorem lf_6_69 : LF 6 69 (0, MX2_takeOver) := ⟨mB_MX2_takeOver, TB_in 615 (by decide +kernel) rfl, mV_MX2_takeOver, by decide⟩
theorem lf_6_72 : LF 6 72 (0, MX6_forgetOldest) := ⟨mB_MX6_forgetOldest, TB_in 306 (by decide +kernel) rfl, mV_MX6_forgetOldest, by decide⟩
theorem lf_6_75 : LF 6 75 (2, MX9_put) := ⟨mB_MX9_put, ⟨"SieveHouse", NW_in 311 (by decide +kernel) rfl⟩, mS_MX9_put, by decide⟩
theorem lf_6_79 : LF 6 79 (2, MX9_at) := ⟨mB_MX9_at, ⟨"SieveHouse", NW_in 310 (by decide +kernel) rfl⟩, mS_MX9_at, by decide⟩
theorem lF_6 : ∀ q ∈ lkT 6, LF 6 q.1 q.2 := List.forall_mem_cons.mpr ⟨lf_6_33, List.forall_mem_cons.mpr ⟨lf_6_34, List.forall_mem_cons.mpr ⟨lf_6_39, List.forall_mem_cons.mpr ⟨lf_6_55, List.forall_mem_cons.mpr ⟨lf_6_59, List.forall_mem_cons.mpr ⟨lf_6_60, List.forall_mem_cons.mpr ⟨lf_6_64, List.forall_mem_cons.mpr ⟨lf_6_68, List.forall_mem_cons.mpr ⟨lf_6_69, List.forall_mem_cons.mpr ⟨lf_6_72, List.forall_mem_cons.mpr ⟨lf_6_75, List.forall_mem_cons.mpr ⟨lf_6_79, fun _ h => absurd h List.not_mem_nil⟩⟩⟩⟩⟩⟩⟩⟩⟩⟩⟩⟩
theorem lf_7_43 : LF 7 43 (0, MX7_begin) := ⟨mB_MX7_begin, TB_in 572 (by decide +kernel) rfl, mV_MX7_begin, by decide⟩
theorem lf_7_56 : LF 7 56 (0, MX7_firstNumber) := ⟨mB_MX7_firstNumber, TB_in 390 (by decide +kernel) rfl, mV_MX7_firstNumber, by decide⟩
theorem lf_7_60 : LF 7 60 (2, MX9_put) := ⟨mB_MX9_put, ⟨"SieveHouse", NW_in 334 (by decide +kernel) rfl⟩, mS_MX9_put, by decide⟩
theorem lf_7_67 : LF 7 67 (2, MX9_copyCells) := ⟨mB_MX9_copyCells, ⟨"SieveHouse", NW_in 319 (by decide +kernel) rfl⟩, mS_MX9_copyCells, by decide⟩
theorem lf_7_71 : LF 7 71 (0, MX7_nextGap) := ⟨mB_MX7_nextGap, TB_in 270 (by decide +kernel) rfl, mV_MX7_nextGap, by decide⟩
theorem lf_7_75 : LF 7 75 (2, MX9_at) := ⟨mB_MX9_at, ⟨"SieveHouse", NW_in 278 (by decide +kernel) rfl⟩, mS_MX9_at, by decide⟩
theorem lf_7_79 : LF 7 79 (0, MX7_isHere) := ⟨mB_MX7_isHere, TB_in 373 (by decide +kernel) rfl, mV_MX7_isHere, by decide⟩
theorem lf_7_83 : LF 7 83 (2, MX9_within) := ⟨mB_MX9_within, ⟨"SieveHouse", NW_in 285 (by decide +kernel) rfl⟩, mS_MX9_within, by decide⟩
theorem lf_7_87 : LF 7 87 (0, MX7_numberAt) := ⟨mB_MX7_numberAt, TB_in 281 (by decide +kernel) rfl, mV_MX7_numberAt, by decide⟩
theorem lf_7_90 : LF 7 90 (0, MX7_indexOf) := ⟨mB_MX7_indexOf, TB_in 330 (by decide +kernel) rfl, mV_MX7_indexOf, by decide⟩
theorem lf_7_94 : LF 7 94 (0, MX7_has) := ⟨mB_MX7_has, TB_in 369 (by decide +kernel) rfl, mV_MX7_has, by decide⟩
theorem lf_7_98 : LF 7 98 (0, MX7_countUpTo) := ⟨mB_MX7_countUpTo, TB_in 378 (by decide +kernel) rfl, mV_MX7_countUpTo, by decide⟩
theorem lf_7_101 : LF 7 101 (0, MX7_gapByLaw) := ⟨mB_MX7_gapByLaw, TB_in 274 (by decide +kernel) rfl, mV_MX7_gapByLaw, by decide⟩
theorem lf_7_104 : LF 7 104 (0, MX7_strikesAny) := ⟨mB_MX7_strikesAny, TB_in 286 (by decide +kernel) rfl, mV_MX7_strikesAny, by decide⟩
theorem lf_7_107 : LF 7 107 (0, MX7_strikesPlace) := ⟨mB_MX7_strikesPlace, TB_in 290 (by decide +kernel) rfl, mV_MX7_strikesPlace, by decide⟩
theorem lf_7_110 : LF 7 110 (2, MX9_remainder) := ⟨mB_MX9_remainder, ⟨"SieveHouse", NW_in 294 (by decide +kernel) rfl⟩, mS_MX9_remainder, by decide⟩
theorem lf_7_114 : LF 7 114 (0, MX7_sweep) := ⟨mB_MX7_sweep, TB_in 326 (by decide +kernel) rfl, mV_MX7_sweep, by decide⟩
theorem lf_7_117 : LF 7 117 (0, MX7_closeUp) := ⟨mB_MX7_closeUp, TB_in 386 (by decide +kernel) rfl, mV_MX7_closeUp, by decide⟩
theorem lF_7 : ∀ q ∈ lkT 7, LF 7 q.1 q.2 := List.forall_mem_cons.mpr ⟨lf_7_43, List.forall_mem_cons.mpr ⟨lf_7_56, List.forall_mem_cons.mpr ⟨lf_7_60, List.forall_mem_cons.mpr ⟨lf_7_67, List.forall_mem_cons.mpr ⟨lf_7_71, List.forall_mem_cons.mpr ⟨lf_7_75, List.forall_mem_cons.mpr ⟨lf_7_79, List.forall_mem_cons.mpr ⟨lf_7_83, List.forall_mem_cons.mpr ⟨lf_7_87, List.forall_mem_cons.mpr ⟨lf_7_90, List.forall_mem_cons.mpr ⟨lf_7_94, List.forall_mem_cons.mpr ⟨lf_7_98, List.forall_mem_cons.mpr ⟨lf_7_101, List.forall_mem_cons.mpr ⟨lf_7_104, List.forall_mem_cons.mpr ⟨lf_7_107, List.forall_mem_cons.mpr ⟨lf_7_110, List.forall_mem_cons.mpr ⟨lf_7_114, List.forall_mem_cons.mpr ⟨lf_7_117, fun _ h => absurd h List.not_mem_nil⟩⟩⟩⟩⟩⟩⟩⟩⟩⟩⟩⟩⟩⟩⟩⟩⟩⟩
theorem lF_8 : ∀ q ∈ lkT 8, LF 8 q.1 q.2 := fun _ h => absurd h List.not_mem_nil
theorem lf_9_11 : LF 9 11 (3, MX5_init) := ⟨mB_MX5_init, TB_in 33 (by decide +kernel) rfl, mC_MX5_init, by decide⟩
theorem lf_9_18 : LF 9 18 (3, MX6_init) := ⟨mB_MX6_init, TB_in 165 (by decide +kernel) rfl, mC_MX6_init, by decide⟩
theorem lf_9_25 : LF 9 25 (4, MX4_init) := ⟨mB_MX4_init, ⟨"SieveHouse", NW_in 203 (by decide +kernel) rfl⟩, mC_MX4_init, by decide⟩
theorem lf_9_32 : LF 9 32 (4, MX7_init) := ⟨mB_MX7_init, ⟨"SieveHouse", NW_in 214 (by decide +kernel) rfl⟩, mC_MX7_init, by decide⟩
theorem lf_9_45 : LF 9 45 (0, MX5_append) := ⟨mB_MX5_append, TB_in 474 (by decide +kernel) rfl, mV_MX5_append, by decide⟩
theorem lf_9_52 : LF 9 52 (0, MX9_fail) := ⟨mB_MX9_fail, TB_in 249 (by decide +kernel) rfl, mV_MX9_fail, by decide⟩
theorem lf_9_56 : LF 9 56 (0, MX5_readText) := ⟨mB_MX5_readText, TB_in 487 (by decide +kernel) rfl, mV_MX5_readText, by decide⟩
theorem lf_9_60 : LF 9 60 (0, MX6_takeOver) := ⟨mB_MX6_takeOver, TB_in 605 (by decide +kernel) rfl, mV_MX6_takeOver, by decide⟩
theorem lf_9_67 : LF 9 67 (0, MX9_succeed) := ⟨mB_MX9_succeed, TB_in 253 (by decide +kernel) rfl, mV_MX9_succeed, by decide⟩
theorem lf_9_76 : LF 9 76 (1, MX9_within) := ⟨mB_MX9_within, TB_in 246 (by decide +kernel) rfl, mS_MX9_within, by decide⟩
theorem lf_9_86 : LF 9 86 (0, MX6_sieveAt) := ⟨mB_MX6_sieveAt, TB_in 261 (by decide +kernel) rfl, mV_MX6_sieveAt, by decide⟩
theorem lf_9_90 : LF 9 90 (0, MX7_property) := ⟨mB_MX7_property, TB_in 266 (by decide +kernel) rfl, mV_MX7_property, by decide⟩
theorem lf_9_93 : LF 9 93 (0, MX7_nextGap) := ⟨mB_MX7_nextGap, TB_in 301 (by decide +kernel) rfl, mV_MX7_nextGap, by decide⟩
theorem lf_9_97 : LF 9 97 (0, MX6_keepAct) := ⟨mB_MX6_keepAct, TB_in 302 (by decide +kernel) rfl, mV_MX6_keepAct, by decide⟩
theorem lf_9_101 : LF 9 101 (0, MX7_sweep) := ⟨mB_MX7_sweep, TB_in 879 (by decide +kernel) rfl, mV_MX7_sweep, by decide⟩
theorem lf_9_104 : LF 9 104 (0, MX7_sweepAtMost) := ⟨mB_MX7_sweepAtMost, TB_in 322 (by decide +kernel) rfl, mV_MX7_sweepAtMost, by decide⟩
theorem lf_9_107 : LF 9 107 (1, MX3_ofRound) := ⟨mB_MX3_ofRound, TB_in 339 (by decide +kernel) rfl, mS_MX3_ofRound, by decide⟩
theorem lf_9_113 : LF 9 113 (0, MX9_answer) := ⟨mB_MX9_answer, TB_in 357 (by decide +kernel) rfl, mV_MX9_answer, by decide⟩
theorem lf_9_116 : LF 9 116 (0, MX7_placeOf) := ⟨mB_MX7_placeOf, TB_in 365 (by decide +kernel) rfl, mV_MX7_placeOf, by decide⟩
theorem lf_9_122 : LF 9 122 (0, MX7_takeOut) := ⟨mB_MX7_takeOut, TB_in 382 (by decide +kernel) rfl, mV_MX7_takeOut, by decide⟩
theorem lf_9_146 : LF 9 146 (0, MX7_numberAt) := ⟨mB_MX7_numberAt, TB_in 395 (by decide +kernel) rfl, mV_MX7_numberAt, by decide⟩
theorem lf_9_149 : LF 9 149 (1, MX3_ofStruck) := ⟨mB_MX3_ofStruck, TB_in 904 (by decide +kernel) rfl, mS_MX3_ofStruck, by decide⟩
theorem lf_9_152 : LF 9 152 (1, MX3_ledBack) := ⟨mB_MX3_ledBack, TB_in 887 (by decide +kernel) rfl, mS_MX3_ledBack, by decide⟩
theorem lf_9_156 : LF 9 156 (1, MX3_ledOn) := ⟨mB_MX3_ledOn, TB_in 897 (by decide +kernel) rfl, mS_MX3_ledOn, by decide⟩
theorem lf_9_159 : LF 9 159 (0, MX9_finishTrial) := ⟨mB_MX9_finishTrial, TB_in 404 (by decide +kernel) rfl, mV_MX9_finishTrial, by decide⟩
theorem lf_9_163 : LF 9 163 (0, MX7_takeOver) := ⟨mB_MX7_takeOver, TB_in 408 (by decide +kernel) rfl, mV_MX7_takeOver, by decide⟩
theorem lf_9_175 : LF 9 175 (1, MX3_struckNumber) := ⟨mB_MX3_struckNumber, TB_in 929 (by decide +kernel) rfl, mS_MX3_struckNumber, by decide⟩
theorem lf_9_179 : LF 9 179 (0, MX7_countUpTo) := ⟨mB_MX7_countUpTo, TB_in 919 (by decide +kernel) rfl, mV_MX7_countUpTo, by decide⟩
theorem lf_9_250 : LF 9 250 (0, MX7_firstNumber) := ⟨mB_MX7_firstNumber, TB_in 924 (by decide +kernel) rfl, mV_MX7_firstNumber, by decide⟩
theorem lF_9 : ∀ q ∈ lkT 9, LF 9 q.1 q.2 := List.forall_mem_cons.mpr ⟨lf_9_11, List.forall_mem_cons.mpr ⟨lf_9_18, List.forall_mem_cons.mpr ⟨lf_9_25, List.forall_mem_cons.mpr ⟨lf_9_32, List.forall_mem_cons.mpr ⟨lf_9_45, List.forall_mem_cons.mpr ⟨lf_9_52, List.forall_mem_cons.mpr ⟨lf_9_56, List.forall_mem_cons.mpr ⟨lf_9_60, List.forall_mem_cons.mpr ⟨lf_9_67, List.forall_mem_cons.mpr ⟨lf_9_76, List.forall_mem_cons.mpr ⟨lf_9_86, List.forall_mem_cons.mpr ⟨lf_9_90, List.forall_mem_cons.mpr ⟨lf_9_93, List.forall_mem_cons.mpr ⟨lf_9_97, List.forall_mem_cons.mpr ⟨lf_9_101, List.forall_mem_cons.mpr ⟨lf_9_104, List.forall_mem_cons.mpr ⟨lf_9_107, List.forall_mem_cons.mpr ⟨lf_9_113, List.forall_mem_cons.mpr ⟨lf_9_116, List.forall_mem_cons.mpr ⟨lf_9_122, List.forall_mem_cons.mpr ⟨lf_9_146, List.forall_mem_cons.mpr ⟨lf_9_149, List.forall_mem_cons.mpr ⟨lf_9_152, List.forall_mem_cons.mpr ⟨lf_9_156, List.forall_mem_cons.mpr ⟨lf_9_159, List.forall_mem_cons.mpr ⟨lf_9_163, List.forall_mem_cons.mpr ⟨lf_9_175, List.forall_mem_cons.mpr ⟨lf_9_179, List.forall_mem_cons.mpr ⟨lf_9_250, fun _ h => absurd h List.not_mem_nil⟩⟩⟩⟩⟩⟩⟩⟩⟩⟩⟩⟩⟩⟩⟩⟩⟩⟩⟩⟩⟩⟩⟩⟩⟩⟩⟩⟩⟩
theorem lF_10 : ∀ q ∈ lkT 10, LF 10 q.1 q.2 := fun _ h => absurd h List.not_mem_nil
theorem lf_11_8 : LF 11 8 (0, MJ0_length_8abf5) := ⟨mB_MJ0_length_8abf5, TB_in 422 (by decide +kernel) rfl, mV_MJ0_length_8abf5, by decide⟩
theorem lf_11_14 : LF 11 14 (0, MJ0_charAt_5068e) := ⟨mB_MJ0_charAt_5068e, TB_in 432 (by decide +kernel) rfl, mV_MJ0_charAt_5068e, by decide⟩
theorem lf_11_18 : LF 11 18 (0, MX9_feed) := ⟨mB_MX9_feed, TB_in 470 (by decide +kernel) rfl, mV_MX9_feed, by decide⟩
theorem lf_11_24 : LF 11 24 (1, ML_feed) := ⟨mB_ML_feed, TB_in 419 (by decide +kernel) rfl, mS_ML_feed, by decide⟩
theorem lf_11_29 : LF 11 29 (0, MX9_load) := ⟨mB_MX9_load, TB_in 483 (by decide +kernel) rfl, mV_MX9_load, by decide⟩
theorem lf_11_33 : LF 11 33 (1, ML_part) := ⟨mB_ML_part, TB_in 412 (by decide +kernel) rfl, mS_ML_part, by decide⟩
theorem lf_11_41 : LF 11 41 (0, MJ4_append_15ec4) := ⟨mB_MJ4_append_15ec4, TB_in 655 (by decide +kernel) rfl, mV_MJ4_append_15ec4, by decide⟩
theorem lf_11_49 : LF 11 49 (0, MJ4_append_bf812) := ⟨mB_MJ4_append_bf812, TB_in 770 (by decide +kernel) rfl, mV_MJ4_append_bf812, by decide⟩
theorem lf_11_56 : LF 11 56 (0, MJ4_append_cf468) := ⟨mB_MJ4_append_cf468, TB_in 756 (by decide +kernel) rfl, mV_MJ4_append_cf468, by decide⟩
theorem lf_11_59 : LF 11 59 (3, MJ4_init_da8c8) := ⟨mB_MJ4_init_da8c8, TB_in 626 (by decide +kernel) rfl, mC_MJ4_init_da8c8, by decide⟩
theorem lf_11_60 : LF 11 60 (1, ML_cell) := ⟨mB_ML_cell, TB_in 409 (by decide +kernel) rfl, mS_ML_cell, by decide⟩
theorem lf_11_72 : LF 11 72 (1, ML_says) := ⟨mB_ML_says, TB_in 797 (by decide +kernel) rfl, mS_ML_says, by decide⟩
theorem lf_11_78 : LF 11 78 (0, MJ4_toString_0e30d) := ⟨mB_MJ4_toString_0e30d, TB_in 806 (by decide +kernel) rfl, mV_MJ4_toString_0e30d, by decide⟩
theorem lf_11_82 : LF 11 82 (0, MX9_sieve) := ⟨mB_MX9_sieve, TB_in 257 (by decide +kernel) rfl, mV_MX9_sieve, by decide⟩
theorem lf_11_85 : LF 11 85 (0, MX9_number) := ⟨mB_MX9_number, TB_in 391 (by decide +kernel) rfl, mV_MX9_number, by decide⟩
theorem lf_11_88 : LF 11 88 (1, ML_row) := ⟨mB_ML_row, TB_in 866 (by decide +kernel) rfl, mS_ML_row, by decide⟩
theorem lf_11_92 : LF 11 92 (1, ML_gapOf) := ⟨mB_ML_gapOf, TB_in 869 (by decide +kernel) rfl, mS_ML_gapOf, by decide⟩
theorem lf_11_96 : LF 11 96 (1, ML_strikes) := ⟨mB_ML_strikes, TB_in 872 (by decide +kernel) rfl, mS_ML_strikes, by decide⟩
theorem lf_11_100 : LF 11 100 (0, MX9_round) := ⟨mB_MX9_round, TB_in 875 (by decide +kernel) rfl, mV_MX9_round, by decide⟩
theorem lf_11_103 : LF 11 103 (0, MX9_status) := ⟨mB_MX9_status, TB_in 234 (by decide +kernel) rfl, mV_MX9_status, by decide⟩
theorem lf_11_106 : LF 11 106 (0, MX9_all) := ⟨mB_MX9_all, TB_in 297 (by decide +kernel) rfl, mV_MX9_all, by decide⟩
theorem lf_11_109 : LF 11 109 (0, MX9_told) := ⟨mB_MX9_told, TB_in 335 (by decide +kernel) rfl, mV_MX9_told, by decide⟩
theorem lf_11_113 : LF 11 113 (1, ML_leads) := ⟨mB_ML_leads, TB_in 880 (by decide +kernel) rfl, mS_ML_leads, by decide⟩
theorem lf_11_117 : LF 11 117 (0, MX9_back) := ⟨mB_MX9_back, TB_in 883 (by decide +kernel) rfl, mV_MX9_back, by decide⟩
theorem lf_11_120 : LF 11 120 (0, MX9_ahead) := ⟨mB_MX9_ahead, TB_in 893 (by decide +kernel) rfl, mV_MX9_ahead, by decide⟩
theorem lf_11_123 : LF 11 123 (0, MX9_rank) := ⟨mB_MX9_rank, TB_in 396 (by decide +kernel) rfl, mV_MX9_rank, by decide⟩
theorem lf_11_126 : LF 11 126 (0, MX9_fate) := ⟨mB_MX9_fate, TB_in 900 (by decide +kernel) rfl, mV_MX9_fate, by decide⟩
theorem lf_11_129 : LF 11 129 (0, MX9_upTo) := ⟨mB_MX9_upTo, TB_in 915 (by decide +kernel) rfl, mV_MX9_upTo, by decide⟩
theorem lf_11_132 : LF 11 132 (0, MX9_balance) := ⟨mB_MX9_balance, TB_in 920 (by decide +kernel) rfl, mV_MX9_balance, by decide⟩
theorem lf_11_135 : LF 11 135 (0, MX9_gone) := ⟨mB_MX9_gone, TB_in 925 (by decide +kernel) rfl, mV_MX9_gone, by decide⟩
theorem lf_11_138 : LF 11 138 (3, MX9_init) := ⟨mB_MX9_init, TB_in 25 (by decide +kernel) rfl, mC_MX9_init, by decide⟩
theorem lf_11_139 : LF 11 139 (0, MX9_many) := ⟨mB_MX9_many, TB_in 242 (by decide +kernel) rfl, mV_MX9_many, by decide⟩
theorem lf_11_142 : LF 11 142 (1, ML_sieves) := ⟨mB_ML_sieves, TB_in 621 (by decide +kernel) rfl, mS_ML_sieves, by decide⟩
theorem lf_11_146 : LF 11 146 (1, ML_load) := ⟨mB_ML_load, TB_in 416 (by decide +kernel) rfl, mS_ML_load, by decide⟩
theorem lf_11_149 : LF 11 149 (1, ML_isRound) := ⟨mB_ML_isRound, TB_in 863 (by decide +kernel) rfl, mS_ML_isRound, by decide⟩
theorem lf_11_153 : LF 11 153 (0, MX9_strike) := ⟨mB_MX9_strike, TB_in 361 (by decide +kernel) rfl, mV_MX9_strike, by decide⟩
theorem lf_11_156 : LF 11 156 (1, ML_areAll) := ⟨mB_ML_areAll, TB_in 912 (by decide +kernel) rfl, mS_ML_areAll, by decide⟩
theorem lf_11_160 : LF 11 160 (0, MX9_would) := ⟨mB_MX9_would, TB_in 400 (by decide +kernel) rfl, mV_MX9_would, by decide⟩
theorem lf_11_163 : LF 11 163 (0, MX9_fault) := ⟨mB_MX9_fault, TB_in 238 (by decide +kernel) rfl, mV_MX9_fault, by decide⟩
theorem lF_11 : ∀ q ∈ lkT 11, LF 11 q.1 q.2 := List.forall_mem_cons.mpr ⟨lf_11_8, List.forall_mem_cons.mpr ⟨lf_11_14, List.forall_mem_cons.mpr ⟨lf_11_18, List.forall_mem_cons.mpr ⟨lf_11_24, List.forall_mem_cons.mpr ⟨lf_11_29, List.forall_mem_cons.mpr ⟨lf_11_33, List.forall_mem_cons.mpr ⟨lf_11_41, List.forall_mem_cons.mpr ⟨lf_11_49, List.forall_mem_cons.mpr ⟨lf_11_56, List.forall_mem_cons.mpr ⟨lf_11_59, List.forall_mem_cons.mpr ⟨lf_11_60, List.forall_mem_cons.mpr ⟨lf_11_72, List.forall_mem_cons.mpr ⟨lf_11_78, List.forall_mem_cons.mpr ⟨lf_11_82, List.forall_mem_cons.mpr ⟨lf_11_85, List.forall_mem_cons.mpr ⟨lf_11_88, List.forall_mem_cons.mpr ⟨lf_11_92, List.forall_mem_cons.mpr ⟨lf_11_96, List.forall_mem_cons.mpr ⟨lf_11_100, List.forall_mem_cons.mpr ⟨lf_11_103, List.forall_mem_cons.mpr ⟨lf_11_106, List.forall_mem_cons.mpr ⟨lf_11_109, List.forall_mem_cons.mpr ⟨lf_11_113, List.forall_mem_cons.mpr ⟨lf_11_117, List.forall_mem_cons.mpr ⟨lf_11_120, List.forall_mem_cons.mpr ⟨lf_11_123, List.forall_mem_cons.mpr ⟨lf_11_126, List.forall_mem_cons.mpr ⟨lf_11_129, List.forall_mem_cons.mpr ⟨lf_11_132, List.forall_mem_cons.mpr ⟨lf_11_135, List.forall_mem_cons.mpr ⟨lf_11_138, List.forall_mem_cons.mpr ⟨lf_11_139, List.forall_mem_cons.mpr ⟨lf_11_142, List.forall_mem_cons.mpr ⟨lf_11_146, List.forall_mem_cons.mpr ⟨lf_11_149, List.forall_mem_cons.mpr ⟨lf_11_153, List.forall_mem_cons.mpr ⟨lf_11_156, List.forall_mem_cons.mpr ⟨lf_11_160, List.forall_mem_cons.mpr ⟨lf_11_163, fun _ h => absurd h List.not_mem_nil⟩⟩⟩⟩⟩⟩⟩⟩⟩⟩⟩⟩⟩⟩⟩⟩⟩⟩⟩⟩⟩⟩⟩⟩⟩⟩⟩⟩⟩⟩⟩⟩⟩⟩⟩⟩⟩⟩⟩
theorem lF_12 : ∀ q ∈ lkT 12, LF 12 q.1 q.2 := fun _ h => absurd h List.not_mem_nil
theorem lF_13 : ∀ q ∈ lkT 13, LF 13 q.1 q.2 := fun _ h => absurd h List.not_mem_nil
theorem lf_14_54 : LF 14 54 (1, MJ7_copyOfRange_39247) := ⟨mB_MJ7_copyOfRange_39247, TB_in 833 (by decide +kernel) rfl, mS_MJ7_copyOfRange_39247, by decide⟩
theorem lf_14_212 : LF 14 212 (14, MJ9_min_7cf53) := TB_in 754 (by decide +kernel) rfl
theorem lf_14_335 : LF 14 335 (0, MJ0_coder_7d493) := ⟨mB_MJ0_coder_7d493, TB_in 426 (by decide +kernel) rfl, mV_MJ0_coder_7d493, by decide⟩
theorem lf_14_489 : LF 14 489 (3, MJ0_init_db425) := ⟨mB_MJ0_init_db425, TB_in 815 (by decide +kernel) rfl, mC_MJ0_init_db425, by decide⟩
theorem lf_14_492 : LF 14 492 (0, MJ0_isLatin1_aae02) := ⟨mB_MJ0_isLatin1_aae02, TB_in 436 (by decide +kernel) rfl, mV_MJ0_isLatin1_aae02, by decide⟩
theorem lf_14_495 : LF 14 495 (1, MJ1_charAt_3b067) := ⟨mB_MJ1_charAt_3b067, TB_in 440 (by decide +kernel) rfl, mS_MJ1_charAt_3b067, by decide⟩
theorem lf_14_549 : LF 14 549 (12, MJ4_length_8abf5) := ⟨mB_MJ4_length_8abf5, TB_in 824 (by decide +kernel) rfl, rfl, by decide⟩
theorem lf_14_552 : LF 14 552 (11, MJ5_getValue_6d5f1) := ⟨mB_MJ5_getValue_6d5f1, TB_in 819 (by decide +kernel) rfl, mU_MJ5_getValue_6d5f1, by decide⟩
theorem lf_14_1047 : LF 14 1047 (11, MJ5_isLatin1_aae02) := ⟨mB_MJ5_isLatin1_aae02, TB_in 832 (by decide +kernel) rfl, mU_MJ5_isLatin1_aae02, by decide⟩
theorem lf_14_1059 : LF 14 1059 (1, MJ3_checkIndex_8e157) := ⟨mB_MJ3_checkIndex_8e157, TB_in 448 (by decide +kernel) rfl, mS_MJ3_checkIndex_8e157, by decide⟩
theorem lF_14 : ∀ q ∈ lkT 14, LF 14 q.1 q.2 := List.forall_mem_cons.mpr ⟨lf_14_54, List.forall_mem_cons.mpr ⟨lf_14_212, List.forall_mem_cons.mpr ⟨lf_14_335, List.forall_mem_cons.mpr ⟨lf_14_489, List.forall_mem_cons.mpr ⟨lf_14_492, List.forall_mem_cons.mpr ⟨lf_14_495, List.forall_mem_cons.mpr ⟨lf_14_549, List.forall_mem_cons.mpr ⟨lf_14_552, List.forall_mem_cons.mpr ⟨lf_14_1047, List.forall_mem_cons.mpr ⟨lf_14_1059, fun _ h => absurd h List.not_mem_nil⟩⟩⟩⟩⟩⟩⟩⟩⟩⟩
theorem lf_15_9 : LF 15 9 (1, MJ0_checkIndex_df160) := ⟨mB_MJ0_checkIndex_df160, TB_in 443 (by decide +kernel) rfl, mS_MJ0_checkIndex_df160, by decide⟩
theorem lF_15 : ∀ q ∈ lkT 15, LF 15 q.1 q.2 := List.forall_mem_cons.mpr ⟨lf_15_9, fun _ h => absurd h List.not_mem_nil⟩
theorem lF_16 : ∀ q ∈ lkT 16, LF 16 q.1 q.2 := fun _ h => absurd h List.not_mem_nil
theorem lF_17 : ∀ q ∈ lkT 17, LF 17 q.1 q.2 := fun _ h => absurd h List.not_mem_nil
theorem lf_18_32 : LF 18 32 (0, MJ0_length_8abf5) := ⟨mB_MJ0_length_8abf5, TB_in 721 (by decide +kernel) rfl, mV_MJ0_length_8abf5, by decide⟩
theorem lf_18_40 : LF 18 40 (0, MJ0_coder_7d493) := ⟨mB_MJ0_coder_7d493, TB_in 730 (by decide +kernel) rfl, mV_MJ0_coder_7d493, by decide⟩
theorem lf_18_83 : LF 18 83 (11, MJ5_isLatin1_aae02) := ⟨mB_MJ5_isLatin1_aae02, TB_in 701 (by decide +kernel) rfl, mU_MJ5_isLatin1_aae02, by decide⟩
theorem lf_18_100 : LF 18 100 (13, MJ5_ensureCapacityInternal_d00df) := ⟨mB_MJ5_ensureCapacityInternal_d00df, TB_in 666 (by decide +kernel) rfl, mU_MJ5_ensureCapacityInternal_d00df, by decide⟩
theorem lf_18_104 : LF 18 104 (13, MJ5_newCapacity_0f7a4) := ⟨mB_MJ5_newCapacity_0f7a4, TB_in 670 (by decide +kernel) rfl, mU_MJ5_newCapacity_0f7a4, by decide⟩
theorem lf_18_108 : LF 18 108 (1, MJ7_copyOf_9075b) := ⟨mB_MJ7_copyOf_9075b, TB_in 685 (by decide +kernel) rfl, mS_MJ7_copyOf_9075b, by decide⟩
theorem lf_18_114 : LF 18 114 (1, MJ8_newLength_cabcc) := ⟨mB_MJ8_newLength_cabcc, TB_in 674 (by decide +kernel) rfl, mS_MJ8_newLength_cabcc, by decide⟩
theorem lf_18_191 : LF 18 191 (1, MJ1_canEncode_fc78d) := ⟨mB_MJ1_canEncode_fc78d, TB_in 763 (by decide +kernel) rfl, mS_MJ1_canEncode_fc78d, by decide⟩
theorem lf_18_208 : LF 18 208 (13, MJ5_putStringAt_47b60) := ⟨mB_MJ5_putStringAt_47b60, TB_in 722 (by decide +kernel) rfl, mU_MJ5_putStringAt_47b60, by decide⟩
theorem lf_18_245 : LF 18 245 (1, MJ6_stringSize_0f7a4) := ⟨mB_MJ6_stringSize_0f7a4, TB_in 777 (by decide +kernel) rfl, mS_MJ6_stringSize_0f7a4, by decide⟩
theorem lf_18_248 : LF 18 248 (1, MJ6_getChars_ba4f3) := ⟨mB_MJ6_getChars_ba4f3, TB_in 780 (by decide +kernel) rfl, mS_MJ6_getChars_ba4f3, by decide⟩
theorem lf_18_397 : LF 18 397 (13, MJ5_inflateIfNeededFor_a7421) := ⟨mB_MJ5_inflateIfNeededFor_a7421, TB_in 726 (by decide +kernel) rfl, mU_MJ5_inflateIfNeededFor_a7421, by decide⟩
theorem lf_18_399 : LF 18 399 (0, MJ0_getBytes_840e7) := ⟨mB_MJ0_getBytes_840e7, TB_in 750 (by decide +kernel) rfl, mV_MJ0_getBytes_840e7, by decide⟩
theorem lF_18 : ∀ q ∈ lkT 18, LF 18 q.1 q.2 := List.forall_mem_cons.mpr ⟨lf_18_32, List.forall_mem_cons.mpr ⟨lf_18_40, List.forall_mem_cons.mpr ⟨lf_18_83, List.forall_mem_cons.mpr ⟨lf_18_100, List.forall_mem_cons.mpr ⟨lf_18_104, List.forall_mem_cons.mpr ⟨lf_18_108, List.forall_mem_cons.mpr ⟨lf_18_114, List.forall_mem_cons.mpr ⟨lf_18_191, List.forall_mem_cons.mpr ⟨lf_18_208, List.forall_mem_cons.mpr ⟨lf_18_245, List.forall_mem_cons.mpr ⟨lf_18_248, List.forall_mem_cons.mpr ⟨lf_18_397, List.forall_mem_cons.mpr ⟨lf_18_399, fun _ h => absurd h List.not_mem_nil⟩⟩⟩⟩⟩⟩⟩⟩⟩⟩⟩⟩⟩
theorem lf_19_1 : LF 19 1 (3, MJ5_init_d00df) := ⟨mB_MJ5_init_d00df, TB_in 629 (by decide +kernel) rfl, mC_MJ5_init_d00df, by decide⟩
theorem lf_19_29 : LF 19 29 (15, MJ5_append_cf1ce) := ⟨mB_MJ5_append_cf1ce, TB_in 659 (by decide +kernel) rfl, ⟨mW_MJ5_append_cf1ce, rfl⟩, by decide⟩
theorem lf_19_50 : LF 19 50 (15, MJ5_append_3fe6f) := ⟨mB_MJ5_append_3fe6f, TB_in 760 (by decide +kernel) rfl, ⟨mW_MJ5_append_3fe6f, rfl⟩, by decide⟩
theorem lf_19_53 : LF 19 53 (15, MJ5_append_c97b9) := ⟨mB_MJ5_append_c97b9, TB_in 774 (by decide +kernel) rfl, ⟨mW_MJ5_append_c97b9, rfl⟩, by decide⟩
theorem lf_19_137 : LF 19 137 (3, MJ0_init_81219) := ⟨mB_MJ0_init_81219, TB_in 812 (by decide +kernel) rfl, mC_MJ0_init_81219, by decide⟩
theorem lf_19_343 : LF 19 343 (15, MJ5_length_8abf5) := ⟨mB_MJ5_length_8abf5, TB_in 830 (by decide +kernel) rfl, ⟨mW_MJ5_length_8abf5, rfl⟩, by decide⟩
theorem lF_19 : ∀ q ∈ lkT 19, LF 19 q.1 q.2 := List.forall_mem_cons.mpr ⟨lf_19_1, List.forall_mem_cons.mpr ⟨lf_19_29, List.forall_mem_cons.mpr ⟨lf_19_50, List.forall_mem_cons.mpr ⟨lf_19_53, List.forall_mem_cons.mpr ⟨lf_19_137, List.forall_mem_cons.mpr ⟨lf_19_343, fun _ h => absurd h List.not_mem_nil⟩⟩⟩⟩⟩⟩
theorem lf_20_150 : LF 20 150 (14, MJ9_min_7cf53) := TB_in 698 (by decide +kernel) rfl
theorem lf_20_304 : LF 20 304 (9, MJ9_min_7cf53) := ⟨TB_in 695 (by decide +kernel) rfl, rfl⟩
theorem lf_20_339 : LF 20 339 (1, MJ7_copyOfRangeByte_39247) := ⟨mB_MJ7_copyOfRangeByte_39247, TB_in 836 (by decide +kernel) rfl, mS_MJ7_copyOfRangeByte_39247, by decide⟩
theorem lf_20_343 : LF 20 343 (1, MJ7_checkLength_df160) := ⟨mB_MJ7_checkLength_df160, TB_in 839 (by decide +kernel) rfl, mS_MJ7_checkLength_df160, by decide⟩
theorem lF_20 : ∀ q ∈ lkT 20, LF 20 q.1 q.2 := List.forall_mem_cons.mpr ⟨lf_20_150, List.forall_mem_cons.mpr ⟨lf_20_304, List.forall_mem_cons.mpr ⟨lf_20_339, List.forall_mem_cons.mpr ⟨lf_20_343, fun _ h => absurd h List.not_mem_nil⟩⟩⟩⟩
theorem lf_21_194 : LF 21 194 (10, MJ9_max_7cf53) := ⟨TB_in 677 (by decide +kernel) rfl, rfl⟩
theorem lF_21 : ∀ q ∈ lkT 21, LF 21 q.1 q.2 := List.forall_mem_cons.mpr ⟨lf_21_194, fun _ h => absurd h List.not_mem_nil⟩
theorem lF_22 : ∀ q ∈ lkT 22, LF 22 q.1 q.2 := fun _ h => absurd h List.not_mem_nil
theorem lF_all (own : Nat) (ho : own < 23) : ∀ q ∈ lkT own, LF own q.1 q.2 := by
  match own, ho with
  | 0, _ => exact lF_0
  | 1, _ => exact lF_1
  | 2, _ => exact lF_2
  | 3, _ => exact lF_3
  | 4, _ => exact lF_4
  | 5, _ => exact lF_5
  | 6, _ => exact lF_6
  | 7, _ => exact lF_7
  | 8, _ => exact lF_8
  | 9, _ => exact lF_9
  | 10, _ => exact lF_10
  | 11, _ => exact lF_11
  | 12, _ => exact lF_12
  | 13, _ => exact lF_13
  | 14, _ => exact lF_14
  | 15, _ => exact lF_15
  | 16, _ => exact lF_16
  | 17, _ => exact lF_17
  | 18, _ => exact lF_18
  | 19, _ => exact lF_19
  | 20, _ => exact lF_20
  | 21, _ => exact lF_21
  | 22, _ => exact lF_22
  | n + 23, h => exact absurd h (by omega)
theorem find_map {α : Type} {L : List (Nat × α)} {i : Nat} {x : α} (h : (L.find? (fun q => q.1 == i)).map (·.2) = some x) : (i, x) ∈ L := by
  cases hf : L.find? (fun q => q.1 == i) with
  | none => rw [hf] at h; cases h
  | some q =>
    rw [hf] at h
    have h1 := List.find?_some hf
    have h2 := List.mem_of_find?_eq_some hf
    obtain ⟨a, y⟩ := q
    have e1 : a = i := by simpa using h1
    have e2 : y = x := Option.some.inj h
    rw [← e1, ← e2]
    exact h2
theorem lk_ok {own i : Nat} {q : Nat × MI} (ho : own < 23) (h : lk own i = some q) : LF own i q := lF_all own ho _ (find_map h)
/-- fields -/
def FF (own : Nat) (q : Nat × Nat × Nat) : Prop := (q.2.1 < 8 ∧ q.2.2 < NO q.2.1) ∧ Cond.fieldLink (RN own) q.1 (TO q.2.1 q.2.2).1 (TO q.2.1 q.2.2).2.1 (TO q.2.1 q.2.2).2.2.1 ∈ TB
theorem fF_0 : ∀ q ∈ flT 0, FF 0 q := fun _ h => absurd h List.not_mem_nil
theorem fF_1 : ∀ q ∈ flT 1, FF 1 q := fun _ h => absurd h List.not_mem_nil
theorem fF_2 : ∀ q ∈ flT 2, FF 2 q := List.forall_mem_cons.mpr ⟨⟨⟨by decide, by decide⟩, TB_in 104 (by decide +kernel) rfl⟩, List.forall_mem_cons.mpr ⟨⟨⟨by decide, by decide⟩, TB_in 105 (by decide +kernel) rfl⟩, fun _ h => absurd h List.not_mem_nil⟩⟩
theorem fF_3 : ∀ q ∈ flT 3, FF 3 q := List.forall_mem_cons.mpr ⟨⟨⟨by decide, by decide⟩, TB_in 56 (by decide +kernel) rfl⟩, List.forall_mem_cons.mpr ⟨⟨⟨by decide, by decide⟩, TB_in 65 (by decide +kernel) rfl⟩, List.forall_mem_cons.mpr ⟨⟨⟨by decide, by decide⟩, TB_in 63 (by decide +kernel) rfl⟩, List.forall_mem_cons.mpr ⟨⟨⟨by decide, by decide⟩, TB_in 61 (by decide +kernel) rfl⟩, List.forall_mem_cons.mpr ⟨⟨⟨by decide, by decide⟩, TB_in 50 (by decide +kernel) rfl⟩, fun _ h => absurd h List.not_mem_nil⟩⟩⟩⟩⟩
theorem fF_4 : ∀ q ∈ flT 4, FF 4 q := List.forall_mem_cons.mpr ⟨⟨⟨by decide, by decide⟩, TB_in 207 (by decide +kernel) rfl⟩, fun _ h => absurd h List.not_mem_nil⟩
theorem fF_5 : ∀ q ∈ flT 5, FF 5 q := List.forall_mem_cons.mpr ⟨⟨⟨by decide, by decide⟩, TB_in 112 (by decide +kernel) rfl⟩, List.forall_mem_cons.mpr ⟨⟨⟨by decide, by decide⟩, TB_in 116 (by decide +kernel) rfl⟩, List.forall_mem_cons.mpr ⟨⟨⟨by decide, by decide⟩, TB_in 118 (by decide +kernel) rfl⟩, List.forall_mem_cons.mpr ⟨⟨⟨by decide, by decide⟩, TB_in 124 (by decide +kernel) rfl⟩, List.forall_mem_cons.mpr ⟨⟨⟨by decide, by decide⟩, TB_in 127 (by decide +kernel) rfl⟩, List.forall_mem_cons.mpr ⟨⟨⟨by decide, by decide⟩, TB_in 130 (by decide +kernel) rfl⟩, List.forall_mem_cons.mpr ⟨⟨⟨by decide, by decide⟩, TB_in 131 (by decide +kernel) rfl⟩, List.forall_mem_cons.mpr ⟨⟨⟨by decide, by decide⟩, TB_in 113 (by decide +kernel) rfl⟩, List.forall_mem_cons.mpr ⟨⟨⟨by decide, by decide⟩, TB_in 115 (by decide +kernel) rfl⟩, List.forall_mem_cons.mpr ⟨⟨⟨by decide, by decide⟩, TB_in 126 (by decide +kernel) rfl⟩, List.forall_mem_cons.mpr ⟨⟨⟨by decide, by decide⟩, TB_in 129 (by decide +kernel) rfl⟩, List.forall_mem_cons.mpr ⟨⟨⟨by decide, by decide⟩, TB_in 122 (by decide +kernel) rfl⟩, List.forall_mem_cons.mpr ⟨⟨⟨by decide, by decide⟩, TB_in 120 (by decide +kernel) rfl⟩, List.forall_mem_cons.mpr ⟨⟨⟨by decide, by decide⟩, TB_in 55 (by decide +kernel) rfl⟩, List.forall_mem_cons.mpr ⟨⟨⟨by decide, by decide⟩, TB_in 53 (by decide +kernel) rfl⟩, List.forall_mem_cons.mpr ⟨⟨⟨by decide, by decide⟩, TB_in 106 (by decide +kernel) rfl⟩, List.forall_mem_cons.mpr ⟨⟨⟨by decide, by decide⟩, TB_in 121 (by decide +kernel) rfl⟩, List.forall_mem_cons.mpr ⟨⟨⟨by decide, by decide⟩, TB_in 123 (by decide +kernel) rfl⟩, fun _ h => absurd h List.not_mem_nil⟩⟩⟩⟩⟩⟩⟩⟩⟩⟩⟩⟩⟩⟩⟩⟩⟩⟩
theorem fF_6 : ∀ q ∈ flT 6, FF 6 q := List.forall_mem_cons.mpr ⟨⟨⟨by decide, by decide⟩, TB_in 173 (by decide +kernel) rfl⟩, List.forall_mem_cons.mpr ⟨⟨⟨by decide, by decide⟩, TB_in 176 (by decide +kernel) rfl⟩, List.forall_mem_cons.mpr ⟨⟨⟨by decide, by decide⟩, TB_in 179 (by decide +kernel) rfl⟩, List.forall_mem_cons.mpr ⟨⟨⟨by decide, by decide⟩, TB_in 180 (by decide +kernel) rfl⟩, List.forall_mem_cons.mpr ⟨⟨⟨by decide, by decide⟩, TB_in 181 (by decide +kernel) rfl⟩, List.forall_mem_cons.mpr ⟨⟨⟨by decide, by decide⟩, TB_in 174 (by decide +kernel) rfl⟩, List.forall_mem_cons.mpr ⟨⟨⟨by decide, by decide⟩, TB_in 177 (by decide +kernel) rfl⟩, List.forall_mem_cons.mpr ⟨⟨⟨by decide, by decide⟩, TB_in 182 (by decide +kernel) rfl⟩, List.forall_mem_cons.mpr ⟨⟨⟨by decide, by decide⟩, TB_in 125 (by decide +kernel) rfl⟩, List.forall_mem_cons.mpr ⟨⟨⟨by decide, by decide⟩, TB_in 128 (by decide +kernel) rfl⟩, fun _ h => absurd h List.not_mem_nil⟩⟩⟩⟩⟩⟩⟩⟩⟩⟩
theorem fF_7 : ∀ q ∈ flT 7, FF 7 q := List.forall_mem_cons.mpr ⟨⟨⟨by decide, by decide⟩, TB_in 54 (by decide +kernel) rfl⟩, List.forall_mem_cons.mpr ⟨⟨⟨by decide, by decide⟩, TB_in 60 (by decide +kernel) rfl⟩, List.forall_mem_cons.mpr ⟨⟨⟨by decide, by decide⟩, TB_in 62 (by decide +kernel) rfl⟩, List.forall_mem_cons.mpr ⟨⟨⟨by decide, by decide⟩, TB_in 64 (by decide +kernel) rfl⟩, List.forall_mem_cons.mpr ⟨⟨⟨by decide, by decide⟩, TB_in 66 (by decide +kernel) rfl⟩, List.forall_mem_cons.mpr ⟨⟨⟨by decide, by decide⟩, TB_in 46 (by decide +kernel) rfl⟩, List.forall_mem_cons.mpr ⟨⟨⟨by decide, by decide⟩, TB_in 47 (by decide +kernel) rfl⟩, List.forall_mem_cons.mpr ⟨⟨⟨by decide, by decide⟩, TB_in 48 (by decide +kernel) rfl⟩, List.forall_mem_cons.mpr ⟨⟨⟨by decide, by decide⟩, TB_in 49 (by decide +kernel) rfl⟩, List.forall_mem_cons.mpr ⟨⟨⟨by decide, by decide⟩, TB_in 52 (by decide +kernel) rfl⟩, List.forall_mem_cons.mpr ⟨⟨⟨by decide, by decide⟩, TB_in 57 (by decide +kernel) rfl⟩, List.forall_mem_cons.mpr ⟨⟨⟨by decide, by decide⟩, TB_in 58 (by decide +kernel) rfl⟩, List.forall_mem_cons.mpr ⟨⟨⟨by decide, by decide⟩, TB_in 59 (by decide +kernel) rfl⟩, List.forall_mem_cons.mpr ⟨⟨⟨by decide, by decide⟩, TB_in 67 (by decide +kernel) rfl⟩, fun _ h => absurd h List.not_mem_nil⟩⟩⟩⟩⟩⟩⟩⟩⟩⟩⟩⟩⟩⟩
theorem fF_8 : ∀ q ∈ flT 8, FF 8 q := fun _ h => absurd h List.not_mem_nil
theorem fF_9 : ∀ q ∈ flT 9, FF 9 q := List.forall_mem_cons.mpr ⟨⟨⟨by decide, by decide⟩, TB_in 215 (by decide +kernel) rfl⟩, List.forall_mem_cons.mpr ⟨⟨⟨by decide, by decide⟩, TB_in 216 (by decide +kernel) rfl⟩, List.forall_mem_cons.mpr ⟨⟨⟨by decide, by decide⟩, TB_in 217 (by decide +kernel) rfl⟩, List.forall_mem_cons.mpr ⟨⟨⟨by decide, by decide⟩, TB_in 218 (by decide +kernel) rfl⟩, List.forall_mem_cons.mpr ⟨⟨⟨by decide, by decide⟩, TB_in 219 (by decide +kernel) rfl⟩, List.forall_mem_cons.mpr ⟨⟨⟨by decide, by decide⟩, TB_in 220 (by decide +kernel) rfl⟩, List.forall_mem_cons.mpr ⟨⟨⟨by decide, by decide⟩, TB_in 114 (by decide +kernel) rfl⟩, List.forall_mem_cons.mpr ⟨⟨⟨by decide, by decide⟩, TB_in 175 (by decide +kernel) rfl⟩, List.forall_mem_cons.mpr ⟨⟨⟨by decide, by decide⟩, TB_in 117 (by decide +kernel) rfl⟩, List.forall_mem_cons.mpr ⟨⟨⟨by decide, by decide⟩, TB_in 119 (by decide +kernel) rfl⟩, List.forall_mem_cons.mpr ⟨⟨⟨by decide, by decide⟩, TB_in 183 (by decide +kernel) rfl⟩, List.forall_mem_cons.mpr ⟨⟨⟨by decide, by decide⟩, TB_in 178 (by decide +kernel) rfl⟩, List.forall_mem_cons.mpr ⟨⟨⟨by decide, by decide⟩, TB_in 68 (by decide +kernel) rfl⟩, List.forall_mem_cons.mpr ⟨⟨⟨by decide, by decide⟩, TB_in 51 (by decide +kernel) rfl⟩, fun _ h => absurd h List.not_mem_nil⟩⟩⟩⟩⟩⟩⟩⟩⟩⟩⟩⟩⟩⟩
theorem fF_10 : ∀ q ∈ flT 10, FF 10 q := fun _ h => absurd h List.not_mem_nil
theorem fF_11 : ∀ q ∈ flT 11, FF 11 q := fun _ h => absurd h List.not_mem_nil
theorem fF_12 : ∀ q ∈ flT 12, FF 12 q := fun _ h => absurd h List.not_mem_nil
theorem fF_13 : ∀ q ∈ flT 13, FF 13 q := fun _ h => absurd h List.not_mem_nil
theorem fF_14 : ∀ q ∈ flT 14, FF 14 q := List.forall_mem_cons.mpr ⟨⟨⟨by decide, by decide⟩, TB_in 852 (by decide +kernel) rfl⟩, List.forall_mem_cons.mpr ⟨⟨⟨by decide, by decide⟩, TB_in 853 (by decide +kernel) rfl⟩, List.forall_mem_cons.mpr ⟨⟨⟨by decide, by decide⟩, TB_in 643 (by decide +kernel) rfl⟩, fun _ h => absurd h List.not_mem_nil⟩⟩⟩
theorem fF_15 : ∀ q ∈ flT 15, FF 15 q := fun _ h => absurd h List.not_mem_nil
theorem fF_16 : ∀ q ∈ flT 16, FF 16 q := fun _ h => absurd h List.not_mem_nil
theorem fF_17 : ∀ q ∈ flT 17, FF 17 q := fun _ h => absurd h List.not_mem_nil
theorem fF_18 : ∀ q ∈ flT 18, FF 18 q := List.forall_mem_cons.mpr ⟨⟨⟨by decide, by decide⟩, TB_in 641 (by decide +kernel) rfl⟩, List.forall_mem_cons.mpr ⟨⟨⟨by decide, by decide⟩, TB_in 642 (by decide +kernel) rfl⟩, List.forall_mem_cons.mpr ⟨⟨⟨by decide, by decide⟩, TB_in 644 (by decide +kernel) rfl⟩, fun _ h => absurd h List.not_mem_nil⟩⟩⟩
theorem fF_19 : ∀ q ∈ flT 19, FF 19 q := fun _ h => absurd h List.not_mem_nil
theorem fF_20 : ∀ q ∈ flT 20, FF 20 q := fun _ h => absurd h List.not_mem_nil
theorem fF_21 : ∀ q ∈ flT 21, FF 21 q := fun _ h => absurd h List.not_mem_nil
theorem fF_22 : ∀ q ∈ flT 22, FF 22 q := fun _ h => absurd h List.not_mem_nil
theorem fF_all (own : Nat) (ho : own < 23) : ∀ q ∈ flT own, FF own q := by
  match own, ho with
  | 0, _ => exact fF_0
  | 1, _ => exact fF_1
  | 2, _ => exact fF_2
  | 3, _ => exact fF_3
  | 4, _ => exact fF_4
  | 5, _ => exact fF_5
  | 6, _ => exact fF_6
  | 7, _ => exact fF_7
  | 8, _ => exact fF_8
  | 9, _ => exact fF_9
  | 10, _ => exact fF_10
  | 11, _ => exact fF_11
  | 12, _ => exact fF_12
  | 13, _ => exact fF_13
  | 14, _ => exact fF_14
  | 15, _ => exact fF_15
  | 16, _ => exact fF_16
  | 17, _ => exact fF_17
  | 18, _ => exact fF_18
  | 19, _ => exact fF_19
  | 20, _ => exact fF_20
  | 21, _ => exact fF_21
  | 22, _ => exact fF_22
  | n + 23, h => exact absurd h (by omega)
theorem fl_ok {own i c f : Nat} (ho : own < 23) (h : fl own i = some (c, f)) : FF own (i, c, f) := fF_all own ho _ (find_map h)
def SF (own : Nat) (q : Nat × Nat) : Prop := match q.2 with
  | 1 => Cond.fieldLink (RN own) q.1 "java/lang/String" "COMPACT_STRINGS" "Z" ∈ TB
  | 4 => Cond.fieldLink (RN own) q.1 "jdk/internal/util/Preconditions" "SIOOBE_FORMATTER" "Ljava/util/function/BiFunction;" ∈ TB
  | 11 => Cond.fieldLink (RN own) q.1 "java/lang/Integer" "DigitOnes" "[B" ∈ TB
  | 12 => Cond.fieldLink (RN own) q.1 "java/lang/Integer" "DigitTens" "[B" ∈ TB
  | 13 => Cond.fieldLink (RN own) q.1 "SieveHouseLaw" "LAWS" "[Ljava/lang/String;" ∈ TB
  | _ => False
theorem gF_0 : ∀ q ∈ sgT 0, SF 0 q := fun _ h => absurd h List.not_mem_nil
theorem gF_1 : ∀ q ∈ sgT 1, SF 1 q := fun _ h => absurd h List.not_mem_nil
theorem gF_2 : ∀ q ∈ sgT 2, SF 2 q := fun _ h => absurd h List.not_mem_nil
theorem gF_3 : ∀ q ∈ sgT 3, SF 3 q := fun _ h => absurd h List.not_mem_nil
theorem gF_4 : ∀ q ∈ sgT 4, SF 4 q := fun _ h => absurd h List.not_mem_nil
theorem gF_5 : ∀ q ∈ sgT 5, SF 5 q := fun _ h => absurd h List.not_mem_nil
theorem gF_6 : ∀ q ∈ sgT 6, SF 6 q := fun _ h => absurd h List.not_mem_nil
theorem gF_7 : ∀ q ∈ sgT 7, SF 7 q := fun _ h => absurd h List.not_mem_nil
theorem gF_8 : ∀ q ∈ sgT 8, SF 8 q := fun _ h => absurd h List.not_mem_nil
theorem gF_9 : ∀ q ∈ sgT 9, SF 9 q := fun _ h => absurd h List.not_mem_nil
theorem gF_10 : ∀ q ∈ sgT 10, SF 10 q := fun _ h => absurd h List.not_mem_nil
theorem gF_11 : ∀ q ∈ sgT 11, SF 11 q := List.forall_mem_cons.mpr ⟨TB_in 800 (by decide +kernel) rfl, fun _ h => absurd h List.not_mem_nil⟩
theorem gF_12 : ∀ q ∈ sgT 12, SF 12 q := List.forall_mem_cons.mpr ⟨TB_in 783 (by decide +kernel) rfl, List.forall_mem_cons.mpr ⟨TB_in 785 (by decide +kernel) rfl, fun _ h => absurd h List.not_mem_nil⟩⟩
theorem gF_13 : ∀ q ∈ sgT 13, SF 13 q := fun _ h => absurd h List.not_mem_nil
theorem gF_14 : ∀ q ∈ sgT 14, SF 14 q := List.forall_mem_cons.mpr ⟨TB_in 430 (by decide +kernel) rfl, List.forall_mem_cons.mpr ⟨TB_in 446 (by decide +kernel) rfl, fun _ h => absurd h List.not_mem_nil⟩⟩
theorem gF_15 : ∀ q ∈ sgT 15, SF 15 q := fun _ h => absurd h List.not_mem_nil
theorem gF_16 : ∀ q ∈ sgT 16, SF 16 q := fun _ h => absurd h List.not_mem_nil
theorem gF_17 : ∀ q ∈ sgT 17, SF 17 q := fun _ h => absurd h List.not_mem_nil
theorem gF_18 : ∀ q ∈ sgT 18, SF 18 q := List.forall_mem_cons.mpr ⟨TB_in 633 (by decide +kernel) rfl, fun _ h => absurd h List.not_mem_nil⟩
theorem gF_19 : ∀ q ∈ sgT 19, SF 19 q := fun _ h => absurd h List.not_mem_nil
theorem gF_20 : ∀ q ∈ sgT 20, SF 20 q := fun _ h => absurd h List.not_mem_nil
theorem gF_21 : ∀ q ∈ sgT 21, SF 21 q := fun _ h => absurd h List.not_mem_nil
theorem gF_22 : ∀ q ∈ sgT 22, SF 22 q := fun _ h => absurd h List.not_mem_nil
theorem gF_all (own : Nat) (ho : own < 23) : ∀ q ∈ sgT own, SF own q := by
  match own, ho with
  | 0, _ => exact gF_0
  | 1, _ => exact gF_1
  | 2, _ => exact gF_2
  | 3, _ => exact gF_3
  | 4, _ => exact gF_4
  | 5, _ => exact gF_5
  | 6, _ => exact gF_6
  | 7, _ => exact gF_7
  | 8, _ => exact gF_8
  | 9, _ => exact gF_9
  | 10, _ => exact gF_10
  | 11, _ => exact gF_11
  | 12, _ => exact gF_12
  | 13, _ => exact gF_13
  | 14, _ => exact gF_14
  | 15, _ => exact gF_15
  | 16, _ => exact gF_16
  | 17, _ => exact gF_17
  | 18, _ => exact gF_18
  | 19, _ => exact gF_19
  | 20, _ => exact gF_20
  | 21, _ => exact gF_21
  | 22, _ => exact gF_22
  | n + 23, h => exact absurd h (by omega)
theorem sg_ok {own i x : Nat} (ho : own < 23) (h : sg own i = some x) : SF own (i, x) := gF_all own ho _ (find_map h)
def okTy : FieldType → Bool
  | .int => true
  | .byte => true
  | .boolean => true
  | .long => true
  | .object _ => true
  | .array _ => true
  | _ => false
def KF (c : Nat) : Prop := vwC2[c]? = some (RO c, TO c, NO c) ∧ (∀ w ∈ u_ws (RO c) (TO c) (NO c), w ∈ TB) ∧ (∀ f, f < NO c → parseFieldDescriptor (TO c f).2.2.1 = some (tyO c f) ∧ okTy (tyO c f) = true) ∧ (∀ a, a < NO c → ∀ b, b < NO c → a ≠ b → (TO c a).2.1 ≠ (TO c b).2.1) ∧ Cond.instantiable (RO c) (NO c) ∈ TB ∧ Cond.initialized (RO c) ∈ TB
theorem uw_0 : ∀ w ∈ u_ws (RO 0) (TO 0) (NO 0), w ∈ TB := List.forall_mem_cons.mpr ⟨TB_in 107 (by decide +kernel) rfl, List.forall_mem_cons.mpr ⟨TB_in 109 (by decide +kernel) rfl, fun _ h => absurd h List.not_mem_nil⟩⟩
theorem kf_0 : KF 0 := ⟨rfl, uw_0, by decide +kernel, by decide +kernel, TB_in 99 (by decide +kernel) rfl, TB_in 8 (by decide +kernel) rfl⟩
theorem uw_1 : ∀ w ∈ u_ws (RO 1) (TO 1) (NO 1), w ∈ TB := List.forall_mem_cons.mpr ⟨TB_in 208 (by decide +kernel) rfl, List.forall_mem_cons.mpr ⟨TB_in 210 (by decide +kernel) rfl, fun _ h => absurd h List.not_mem_nil⟩⟩
theorem kf_1 : KF 1 := ⟨rfl, uw_1, by decide +kernel, by decide +kernel, TB_in 202 (by decide +kernel) rfl, TB_in 10 (by decide +kernel) rfl⟩
theorem uw_2 : ∀ w ∈ u_ws (RO 2) (TO 2) (NO 2), w ∈ TB := List.forall_mem_cons.mpr ⟨TB_in 132 (by decide +kernel) rfl, List.forall_mem_cons.mpr ⟨TB_in 134 (by decide +kernel) rfl, List.forall_mem_cons.mpr ⟨TB_in 136 (by decide +kernel) rfl, List.forall_mem_cons.mpr ⟨TB_in 138 (by decide +kernel) rfl, List.forall_mem_cons.mpr ⟨TB_in 140 (by decide +kernel) rfl, List.forall_mem_cons.mpr ⟨TB_in 142 (by decide +kernel) rfl, List.forall_mem_cons.mpr ⟨TB_in 144 (by decide +kernel) rfl, List.forall_mem_cons.mpr ⟨TB_in 146 (by decide +kernel) rfl, List.forall_mem_cons.mpr ⟨TB_in 148 (by decide +kernel) rfl, List.forall_mem_cons.mpr ⟨TB_in 150 (by decide +kernel) rfl, List.forall_mem_cons.mpr ⟨TB_in 152 (by decide +kernel) rfl, List.forall_mem_cons.mpr ⟨TB_in 154 (by decide +kernel) rfl, List.forall_mem_cons.mpr ⟨TB_in 156 (by decide +kernel) rfl, List.forall_mem_cons.mpr ⟨TB_in 158 (by decide +kernel) rfl, List.forall_mem_cons.mpr ⟨TB_in 160 (by decide +kernel) rfl, fun _ h => absurd h List.not_mem_nil⟩⟩⟩⟩⟩⟩⟩⟩⟩⟩⟩⟩⟩⟩⟩
theorem kf_2 : KF 2 := ⟨rfl, uw_2, by decide +kernel, by decide +kernel, TB_in 32 (by decide +kernel) rfl, TB_in 6 (by decide +kernel) rfl⟩
theorem uw_3 : ∀ w ∈ u_ws (RO 3) (TO 3) (NO 3), w ∈ TB := List.forall_mem_cons.mpr ⟨TB_in 184 (by decide +kernel) rfl, List.forall_mem_cons.mpr ⟨TB_in 186 (by decide +kernel) rfl, List.forall_mem_cons.mpr ⟨TB_in 188 (by decide +kernel) rfl, List.forall_mem_cons.mpr ⟨TB_in 190 (by decide +kernel) rfl, List.forall_mem_cons.mpr ⟨TB_in 192 (by decide +kernel) rfl, List.forall_mem_cons.mpr ⟨TB_in 194 (by decide +kernel) rfl, List.forall_mem_cons.mpr ⟨TB_in 196 (by decide +kernel) rfl, List.forall_mem_cons.mpr ⟨TB_in 198 (by decide +kernel) rfl, fun _ h => absurd h List.not_mem_nil⟩⟩⟩⟩⟩⟩⟩⟩
theorem kf_3 : KF 3 := ⟨rfl, uw_3, by decide +kernel, by decide +kernel, TB_in 164 (by decide +kernel) rfl, TB_in 9 (by decide +kernel) rfl⟩
theorem uw_4 : ∀ w ∈ u_ws (RO 4) (TO 4) (NO 4), w ∈ TB := List.forall_mem_cons.mpr ⟨TB_in 69 (by decide +kernel) rfl, List.forall_mem_cons.mpr ⟨TB_in 71 (by decide +kernel) rfl, List.forall_mem_cons.mpr ⟨TB_in 73 (by decide +kernel) rfl, List.forall_mem_cons.mpr ⟨TB_in 75 (by decide +kernel) rfl, List.forall_mem_cons.mpr ⟨TB_in 77 (by decide +kernel) rfl, List.forall_mem_cons.mpr ⟨TB_in 79 (by decide +kernel) rfl, List.forall_mem_cons.mpr ⟨TB_in 81 (by decide +kernel) rfl, List.forall_mem_cons.mpr ⟨TB_in 83 (by decide +kernel) rfl, List.forall_mem_cons.mpr ⟨TB_in 85 (by decide +kernel) rfl, List.forall_mem_cons.mpr ⟨TB_in 87 (by decide +kernel) rfl, List.forall_mem_cons.mpr ⟨TB_in 89 (by decide +kernel) rfl, List.forall_mem_cons.mpr ⟨TB_in 91 (by decide +kernel) rfl, List.forall_mem_cons.mpr ⟨TB_in 93 (by decide +kernel) rfl, List.forall_mem_cons.mpr ⟨TB_in 95 (by decide +kernel) rfl, fun _ h => absurd h List.not_mem_nil⟩⟩⟩⟩⟩⟩⟩⟩⟩⟩⟩⟩⟩⟩
theorem kf_4 : KF 4 := ⟨rfl, uw_4, by decide +kernel, by decide +kernel, TB_in 41 (by decide +kernel) rfl, TB_in 7 (by decide +kernel) rfl⟩
theorem uw_5 : ∀ w ∈ u_ws (RO 5) (TO 5) (NO 5), w ∈ TB := List.forall_mem_cons.mpr ⟨TB_in 221 (by decide +kernel) rfl, List.forall_mem_cons.mpr ⟨TB_in 223 (by decide +kernel) rfl, List.forall_mem_cons.mpr ⟨TB_in 225 (by decide +kernel) rfl, List.forall_mem_cons.mpr ⟨TB_in 227 (by decide +kernel) rfl, List.forall_mem_cons.mpr ⟨TB_in 229 (by decide +kernel) rfl, List.forall_mem_cons.mpr ⟨TB_in 231 (by decide +kernel) rfl, fun _ h => absurd h List.not_mem_nil⟩⟩⟩⟩⟩⟩
theorem kf_5 : KF 5 := ⟨rfl, uw_5, by decide +kernel, by decide +kernel, TB_in 24 (by decide +kernel) rfl, TB_in 5 (by decide +kernel) rfl⟩
theorem uw_6 : ∀ w ∈ u_ws (RO 6) (TO 6) (NO 6), w ∈ TB := List.forall_mem_cons.mpr ⟨TB_in 854 (by decide +kernel) rfl, List.forall_mem_cons.mpr ⟨TB_in 856 (by decide +kernel) rfl, List.forall_mem_cons.mpr ⟨TB_in 858 (by decide +kernel) rfl, List.forall_mem_cons.mpr ⟨TB_in 860 (by decide +kernel) rfl, fun _ h => absurd h List.not_mem_nil⟩⟩⟩⟩
theorem kf_6 : KF 6 := ⟨rfl, uw_6, by decide +kernel, by decide +kernel, TB_in 811 (by decide +kernel) rfl, TB_in 13 (by decide +kernel) rfl⟩
theorem uw_7 : ∀ w ∈ u_ws (RO 7) (TO 7) (NO 7), w ∈ TB := List.forall_mem_cons.mpr ⟨TB_in 645 (by decide +kernel) rfl, List.forall_mem_cons.mpr ⟨TB_in 647 (by decide +kernel) rfl, List.forall_mem_cons.mpr ⟨TB_in 649 (by decide +kernel) rfl, List.forall_mem_cons.mpr ⟨TB_in 651 (by decide +kernel) rfl, fun _ h => absurd h List.not_mem_nil⟩⟩⟩⟩
theorem kf_7 : KF 7 := ⟨rfl, uw_7, by decide +kernel, by decide +kernel, TB_in 625 (by decide +kernel) rfl, TB_in 12 (by decide +kernel) rfl⟩
theorem kf_all (c : Nat) (hc : c < 8) : KF c := by
  match c, hc with
  | 0, _ => exact kf_0
  | 1, _ => exact kf_1
  | 2, _ => exact kf_2
  | 3, _ => exact kf_3
  | 4, _ => exact kf_4
  | 5, _ => exact kf_5
  | 6, _ => exact kf_6
  | 7, _ => exact kf_7
  | n + 8, h => exact absurd h (by omega)
def CF (own : Nat) (q : Nat × Nat) : Prop := q.2 < 8 ∧ Cond.classLink (RN own) q.1 (RO q.2) ∈ TB
def IF (own : Nat) (q : Nat × Int32) : Prop := Cond.constant (RN own) q.1 q.2 ∈ TB
theorem cF_0 : ∀ q ∈ clT 0, CF 0 q := fun _ h => absurd h List.not_mem_nil
theorem cF_1 : ∀ q ∈ clT 1, CF 1 q := fun _ h => absurd h List.not_mem_nil
theorem cF_2 : ∀ q ∈ clT 2, CF 2 q := fun _ h => absurd h List.not_mem_nil
theorem cF_3 : ∀ q ∈ clT 3, CF 3 q := fun _ h => absurd h List.not_mem_nil
theorem cF_4 : ∀ q ∈ clT 4, CF 4 q := fun _ h => absurd h List.not_mem_nil
theorem cF_5 : ∀ q ∈ clT 5, CF 5 q := List.forall_mem_cons.mpr ⟨⟨by decide, TB_in 37 (by decide +kernel) rfl⟩, List.forall_mem_cons.mpr ⟨⟨by decide, TB_in 39 (by decide +kernel) rfl⟩, fun _ h => absurd h List.not_mem_nil⟩⟩
theorem cF_6 : ∀ q ∈ clT 6, CF 6 q := List.forall_mem_cons.mpr ⟨⟨by decide, TB_in 169 (by decide +kernel) rfl⟩, List.forall_mem_cons.mpr ⟨⟨by decide, TB_in 170 (by decide +kernel) rfl⟩, fun _ h => absurd h List.not_mem_nil⟩⟩
theorem cF_7 : ∀ q ∈ clT 7, CF 7 q := fun _ h => absurd h List.not_mem_nil
theorem cF_8 : ∀ q ∈ clT 8, CF 8 q := fun _ h => absurd h List.not_mem_nil
theorem cF_9 : ∀ q ∈ clT 9, CF 9 q := List.forall_mem_cons.mpr ⟨⟨by decide, TB_in 31 (by decide +kernel) rfl⟩, List.forall_mem_cons.mpr ⟨⟨by decide, TB_in 163 (by decide +kernel) rfl⟩, List.forall_mem_cons.mpr ⟨⟨by decide, TB_in 201 (by decide +kernel) rfl⟩, List.forall_mem_cons.mpr ⟨⟨by decide, TB_in 213 (by decide +kernel) rfl⟩, fun _ h => absurd h List.not_mem_nil⟩⟩⟩⟩
theorem cF_10 : ∀ q ∈ clT 10, CF 10 q := fun _ h => absurd h List.not_mem_nil
theorem cF_11 : ∀ q ∈ clT 11, CF 11 q := List.forall_mem_cons.mpr ⟨⟨by decide, TB_in 23 (by decide +kernel) rfl⟩, List.forall_mem_cons.mpr ⟨⟨by decide, TB_in 624 (by decide +kernel) rfl⟩, fun _ h => absurd h List.not_mem_nil⟩⟩
theorem cF_12 : ∀ q ∈ clT 12, CF 12 q := fun _ h => absurd h List.not_mem_nil
theorem cF_13 : ∀ q ∈ clT 13, CF 13 q := fun _ h => absurd h List.not_mem_nil
theorem cF_14 : ∀ q ∈ clT 14, CF 14 q := fun _ h => absurd h List.not_mem_nil
theorem cF_15 : ∀ q ∈ clT 15, CF 15 q := fun _ h => absurd h List.not_mem_nil
theorem cF_16 : ∀ q ∈ clT 16, CF 16 q := fun _ h => absurd h List.not_mem_nil
theorem cF_17 : ∀ q ∈ clT 17, CF 17 q := fun _ h => absurd h List.not_mem_nil
theorem cF_18 : ∀ q ∈ clT 18, CF 18 q := fun _ h => absurd h List.not_mem_nil
theorem cF_19 : ∀ q ∈ clT 19, CF 19 q := List.forall_mem_cons.mpr ⟨⟨by decide, TB_in 810 (by decide +kernel) rfl⟩, fun _ h => absurd h List.not_mem_nil⟩
theorem cF_20 : ∀ q ∈ clT 20, CF 20 q := fun _ h => absurd h List.not_mem_nil
theorem cF_21 : ∀ q ∈ clT 21, CF 21 q := fun _ h => absurd h List.not_mem_nil
theorem cF_22 : ∀ q ∈ clT 22, CF 22 q := fun _ h => absurd h List.not_mem_nil
theorem cF_all (own : Nat) (ho : own < 23) : ∀ q ∈ clT own, CF own q := by
  match own, ho with
  | 0, _ => exact cF_0
  | 1, _ => exact cF_1
  | 2, _ => exact cF_2
  | 3, _ => exact cF_3
  | 4, _ => exact cF_4
  | 5, _ => exact cF_5
  | 6, _ => exact cF_6
  | 7, _ => exact cF_7
  | 8, _ => exact cF_8
  | 9, _ => exact cF_9
  | 10, _ => exact cF_10
  | 11, _ => exact cF_11
  | 12, _ => exact cF_12
  | 13, _ => exact cF_13
  | 14, _ => exact cF_14
  | 15, _ => exact cF_15
  | 16, _ => exact cF_16
  | 17, _ => exact cF_17
  | 18, _ => exact cF_18
  | 19, _ => exact cF_19
  | 20, _ => exact cF_20
  | 21, _ => exact cF_21
  | 22, _ => exact cF_22
  | n + 23, h => exact absurd h (by omega)
theorem cl_ok {own i : Nat} {x : Nat} (ho : own < 23) (h : cl own i = some x) : CF own (i, x) := cF_all own ho _ (find_map h)
theorem iF_0 : ∀ q ∈ kiT 0, IF 0 q := fun _ h => absurd h List.not_mem_nil
theorem iF_1 : ∀ q ∈ kiT 1, IF 1 q := fun _ h => absurd h List.not_mem_nil
theorem iF_2 : ∀ q ∈ kiT 2, IF 2 q := fun _ h => absurd h List.not_mem_nil
theorem iF_3 : ∀ q ∈ kiT 3, IF 3 q := fun _ h => absurd h List.not_mem_nil
theorem iF_4 : ∀ q ∈ kiT 4, IF 4 q := fun _ h => absurd h List.not_mem_nil
theorem iF_5 : ∀ q ∈ kiT 5, IF 5 q := fun _ h => absurd h List.not_mem_nil
theorem iF_6 : ∀ q ∈ kiT 6, IF 6 q := fun _ h => absurd h List.not_mem_nil
theorem iF_7 : ∀ q ∈ kiT 7, IF 7 q := List.forall_mem_cons.mpr ⟨TB_in 377 (by decide +kernel) rfl, fun _ h => absurd h List.not_mem_nil⟩
theorem iF_8 : ∀ q ∈ kiT 8, IF 8 q := fun _ h => absurd h List.not_mem_nil
theorem iF_9 : ∀ q ∈ kiT 9, IF 9 q := fun _ h => absurd h List.not_mem_nil
theorem iF_10 : ∀ q ∈ kiT 10, IF 10 q := fun _ h => absurd h List.not_mem_nil
theorem iF_11 : ∀ q ∈ kiT 11, IF 11 q := List.forall_mem_cons.mpr ⟨TB_in 415 (by decide +kernel) rfl, fun _ h => absurd h List.not_mem_nil⟩
theorem iF_12 : ∀ q ∈ kiT 12, IF 12 q := fun _ h => absurd h List.not_mem_nil
theorem iF_13 : ∀ q ∈ kiT 13, IF 13 q := fun _ h => absurd h List.not_mem_nil
theorem iF_14 : ∀ q ∈ kiT 14, IF 14 q := fun _ h => absurd h List.not_mem_nil
theorem iF_15 : ∀ q ∈ kiT 15, IF 15 q := fun _ h => absurd h List.not_mem_nil
theorem iF_16 : ∀ q ∈ kiT 16, IF 16 q := List.forall_mem_cons.mpr ⟨TB_in 640 (by decide +kernel) rfl, fun _ h => absurd h List.not_mem_nil⟩
theorem iF_17 : ∀ q ∈ kiT 17, IF 17 q := fun _ h => absurd h List.not_mem_nil
theorem iF_18 : ∀ q ∈ kiT 18, IF 18 q := List.forall_mem_cons.mpr ⟨TB_in 684 (by decide +kernel) rfl, fun _ h => absurd h List.not_mem_nil⟩
theorem iF_19 : ∀ q ∈ kiT 19, IF 19 q := fun _ h => absurd h List.not_mem_nil
theorem iF_20 : ∀ q ∈ kiT 20, IF 20 q := fun _ h => absurd h List.not_mem_nil
theorem iF_21 : ∀ q ∈ kiT 21, IF 21 q := List.forall_mem_cons.mpr ⟨TB_in 680 (by decide +kernel) rfl, fun _ h => absurd h List.not_mem_nil⟩
theorem iF_22 : ∀ q ∈ kiT 22, IF 22 q := fun _ h => absurd h List.not_mem_nil
theorem iF_all (own : Nat) (ho : own < 23) : ∀ q ∈ kiT own, IF own q := by
  match own, ho with
  | 0, _ => exact iF_0
  | 1, _ => exact iF_1
  | 2, _ => exact iF_2
  | 3, _ => exact iF_3
  | 4, _ => exact iF_4
  | 5, _ => exact iF_5
  | 6, _ => exact iF_6
  | 7, _ => exact iF_7
  | 8, _ => exact iF_8
  | 9, _ => exact iF_9
  | 10, _ => exact iF_10
  | 11, _ => exact iF_11
  | 12, _ => exact iF_12
  | 13, _ => exact iF_13
  | 14, _ => exact iF_14
  | 15, _ => exact iF_15
  | 16, _ => exact iF_16
  | 17, _ => exact iF_17
  | 18, _ => exact iF_18
  | 19, _ => exact iF_19
  | 20, _ => exact iF_20
  | 21, _ => exact iF_21
  | 22, _ => exact iF_22
  | n + 23, h => exact absurd h (by omega)
theorem ki_ok {own i : Nat} {x : Int32} (ho : own < 23) (h : ki own i = some x) : IF own (i, x) := iF_all own ho _ (find_map h)
theorem ob_ok (own : Nat) (ho : own < 23) (h : ob own ≠ 0) : Cond.methodLink (RN own) (ob own) Lib.objectInit ∈ TB := by
  match own, ho, h with
  | 0, _, h => exact absurd rfl h
  | 1, _, h => exact absurd rfl h
  | 2, _, _ => exact TB_in 103 (by decide +kernel) rfl
  | 3, _, h => exact absurd rfl h
  | 4, _, _ => exact TB_in 206 (by decide +kernel) rfl
  | 5, _, _ => exact TB_in 36 (by decide +kernel) rfl
  | 6, _, _ => exact TB_in 168 (by decide +kernel) rfl
  | 7, _, _ => exact TB_in 45 (by decide +kernel) rfl
  | 8, _, h => exact absurd rfl h
  | 9, _, _ => exact TB_in 28 (by decide +kernel) rfl
  | 10, _, h => exact absurd rfl h
  | 11, _, h => exact absurd rfl h
  | 12, _, h => exact absurd rfl h
  | 13, _, h => exact absurd rfl h
  | 14, _, _ => exact TB_in 818 (by decide +kernel) rfl
  | 15, _, h => exact absurd rfl h
  | 16, _, h => exact absurd rfl h
  | 17, _, h => exact absurd rfl h
  | 18, _, _ => exact TB_in 632 (by decide +kernel) rfl
  | 19, _, h => exact absurd rfl h
  | 20, _, h => exact absurd rfl h
  | 21, _, h => exact absurd rfl h
  | 22, _, h => exact absurd rfl h
  | n + 23, h, _ => exact absurd h (by omega)

theorem mmin_w : Cond.static Lib.Math.min.name ∈ TB ∧ Cond.code Lib.Math.min.name Lib.Math.min.code 2 (some .int) ∈ TB ∧ Lib.Math.min.name = m_y MJ9_min_7cf53 := ⟨TB_in 696 (by decide +kernel) rfl, TB_in 697 (by decide +kernel) rfl, by decide⟩
theorem mmax_w : Cond.static Lib.Math.max.name ∈ TB ∧ Cond.code Lib.Math.max.name Lib.Math.max.code 2 (some .int) ∈ TB ∧ Lib.Math.max.name = m_y MJ9_max_7cf53 := ⟨TB_in 678 (by decide +kernel) rfl, TB_in 679 (by decide +kernel) rfl, by decide⟩
theorem obI : Cond.instanceMethod Lib.objectInit ∈ TB := TB_in 29 (by decide +kernel) rfl
theorem obC : Cond.code Lib.objectInit ⟨#[0xb1]⟩ 1 none ∈ TB := TB_in 30 (by decide +kernel) rfl
theorem ac_int : Cond.arrayClass .int ∈ TB := TB_in 98 (by decide +kernel) rfl
theorem ac_byte : Cond.arrayClass .byte ∈ TB := TB_in 620 (by decide +kernel) rfl
theorem cp_w : (Cond.native arraycopyName ∈ TB ∧ Cond.static arraycopyName ∈ TB) ∧ Cond.initialized "java/lang/System" ∈ TB := ⟨⟨TB_in 700 (by decide +kernel) rfl, TB_in 699 (by decide +kernel) rfl⟩, TB_in 18 (by decide +kernel) rfl⟩
theorem cc_w : (Cond.methodLink (RN 20) 310 ⟨"[B", "clone", "()Ljava/lang/Object;"⟩ ∈ TB ∧ Cond.sameMethod "[B" "java/lang/Object" "clone" "()Ljava/lang/Object;" ∈ TB ∧ Cond.native ⟨"java/lang/Object", "clone", "()Ljava/lang/Object;"⟩ ∈ TB) ∧ Cond.instanceMethod ⟨"java/lang/Object", "clone", "()Ljava/lang/Object;"⟩ ∈ TB ∧ Cond.selects "[B" ⟨"[B", "clone", "()Ljava/lang/Object;"⟩ ⟨"java/lang/Object", "clone", "()Ljava/lang/Object;"⟩ ∈ TB ∧ Cond.classLink (RN 20) 311 "[B" ∈ TB := ⟨⟨TB_in 688 (by decide +kernel) rfl, TB_in 689 (by decide +kernel) rfl, TB_in 690 (by decide +kernel) rfl⟩, TB_in 691 (by decide +kernel) rfl, TB_in 692 (by decide +kernel) rfl, TB_in 694 (by decide +kernel) rfl⟩
theorem cs_w : Cond.castable "[B" "java/lang/Cloneable" ∈ NW := NW_in 693 (by decide +kernel) rfl
theorem ln_w : (Cond.sameMethod "java/lang/AbstractStringBuilder" "java/lang/AbstractStringBuilder" "length" "()I" ∈ TB ∧ Cond.instanceMethod (m_y MJ5_length_8abf5) ∈ TB ∧ Cond.selects SBn (m_y MJ5_length_8abf5) (m_y MJ4_length_8abf5) ∈ TB) ∧ Cond.instanceMethod (m_y MJ4_length_8abf5) ∈ TB ∧ Cond.code (m_y MJ5_length_8abf5) (m_b MJ5_length_8abf5) (m_ml MJ5_length_8abf5) (m_ret MJ5_length_8abf5) ∈ TB := ⟨⟨TB_in 826 (by decide +kernel) rfl, TB_in 825 (by decide +kernel) rfl, TB_in 827 (by decide +kernel) rfl⟩, TB_in 828 (by decide +kernel) rfl, TB_in 831 (by decide +kernel) rfl⟩
