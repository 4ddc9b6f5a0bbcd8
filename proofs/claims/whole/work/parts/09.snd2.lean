/-! SOUNDNESS of the small machine: the tables' words. -/
def mB (M : MI) : Prop := (Cond.code (m_y M) (m_b M) (m_ml M) (m_ret M) ∈ TB ∧ Cond.initialized (m_y M).cls ∈ TB) ∧ ((m_y M).cls ≠ "java/lang/invoke/MethodHandle" ∧ (m_y M).cls ≠ "java/lang/invoke/VarHandle") ∧ plainName (m_y M).cls = true ∧ (m_y M).cls = RN (m_own M)
def mS (M : MI) : Prop := Cond.static (m_y M) ∈ TB ∧ (parseMethodDescriptor (m_y M).desc).map (fun d => d.parameters.length) = some (m_na M)
def mV (M : MI) : Prop := (Cond.instanceMethod (m_y M) ∈ TB ∧ Cond.selects (m_y M).cls (m_y M) (m_y M) ∈ TB) ∧ ((parseMethodDescriptor (m_y M).desc).map (fun d => d.parameters.length) = some (m_na M - 1) ∧ 1 ≤ m_na M) ∧ oc (m_own M) < 7 ∧ RO (oc (m_own M)) = (m_y M).cls
def mC (M : MI) : Prop := Cond.instanceMethod (m_y M) ∈ TB ∧ ((parseMethodDescriptor (m_y M).desc).map (fun d => d.parameters.length) = some (m_na M - 1) ∧ 1 ≤ m_na M) ∧ (m_y M).name = "<init>" ∧ m_ret M = none
def nL (own idx : Nat) (y : MethodName) : Prop := Cond.methodLink (RN own) idx y ∈ TB
def nN (own idx : Nat) (y : MethodName) : Prop := ∃ host, Cond.methodLinkNest (RN own) idx y host ∈ NW
def LK2 (own idx : Nat) (q : Nat × MI) : Prop := match q.1 with
  | 0 => nL own idx (m_y q.2) ∧ mV q.2 ∧ m_own q.2 < 14
  | 1 => nL own idx (m_y q.2) ∧ mS q.2 ∧ m_own q.2 < 14
  | 2 => nN own idx (m_y q.2) ∧ mS q.2 ∧ m_own q.2 < 14
  | 3 => nL own idx (m_y q.2) ∧ mC q.2 ∧ m_own q.2 < 14
  | 4 => nN own idx (m_y q.2) ∧ mC q.2 ∧ m_own q.2 < 14
  | 6 => nN own idx (m_y q.2) ∧ mV q.2 ∧ m_own q.2 < 14
  | 7 => nL own idx (m_y q.2) ∧ q.2 = MJ0_length_8abf5
  | 8 => nL own idx (m_y q.2) ∧ q.2 = MJ0_charAt_5068e
  | _ => False
def LF (own idx : Nat) (q : Nat × MI) : Prop := match q.1 with
  | 9 => nL own idx (m_y q.2) ∧ q.2 = MJ9_min_7cf53
  | 10 => nL own idx (m_y q.2) ∧ q.2 = MJ9_max_7cf53
  | _ => mB q.2 ∧ LK2 own idx q

theorem cini_0 : Cond.initialized (RN 0) ∈ TB := TB_in 79 (by decide +kernel) rfl
theorem cn_0 : (RN 0 ≠ "java/lang/invoke/MethodHandle" ∧ RN 0 ≠ "java/lang/invoke/VarHandle") ∧ plainName (RN 0) = true := by decide +kernel
theorem cini_1 : Cond.initialized (RN 1) ∈ TB := TB_in 81 (by decide +kernel) rfl
theorem cn_1 : (RN 1 ≠ "java/lang/invoke/MethodHandle" ∧ RN 1 ≠ "java/lang/invoke/VarHandle") ∧ plainName (RN 1) = true := by decide +kernel
theorem cini_2 : Cond.initialized (RN 2) ∈ TB := TB_in 69 (by decide +kernel) rfl
theorem cn_2 : (RN 2 ≠ "java/lang/invoke/MethodHandle" ∧ RN 2 ≠ "java/lang/invoke/VarHandle") ∧ plainName (RN 2) = true := by decide +kernel
theorem cini_3 : Cond.initialized (RN 3) ∈ TB := TB_in 77 (by decide +kernel) rfl
theorem cn_3 : (RN 3 ≠ "java/lang/invoke/MethodHandle" ∧ RN 3 ≠ "java/lang/invoke/VarHandle") ∧ plainName (RN 3) = true := by decide +kernel
theorem cini_4 : Cond.initialized (RN 4) ∈ TB := TB_in 71 (by decide +kernel) rfl
theorem cn_4 : (RN 4 ≠ "java/lang/invoke/MethodHandle" ∧ RN 4 ≠ "java/lang/invoke/VarHandle") ∧ plainName (RN 4) = true := by decide +kernel
theorem cini_5 : Cond.initialized (RN 5) ∈ TB := TB_in 67 (by decide +kernel) rfl
theorem cn_5 : (RN 5 ≠ "java/lang/invoke/MethodHandle" ∧ RN 5 ≠ "java/lang/invoke/VarHandle") ∧ plainName (RN 5) = true := by decide +kernel
theorem cini_6 : Cond.initialized (RN 6) ∈ TB := TB_in 70 (by decide +kernel) rfl
theorem cn_6 : (RN 6 ≠ "java/lang/invoke/MethodHandle" ∧ RN 6 ≠ "java/lang/invoke/VarHandle") ∧ plainName (RN 6) = true := by decide +kernel
theorem cini_7 : Cond.initialized (RN 7) ∈ TB := TB_in 68 (by decide +kernel) rfl
theorem cn_7 : (RN 7 ≠ "java/lang/invoke/MethodHandle" ∧ RN 7 ≠ "java/lang/invoke/VarHandle") ∧ plainName (RN 7) = true := by decide +kernel
theorem cini_8 : Cond.initialized (RN 8) ∈ TB := TB_in 78 (by decide +kernel) rfl
theorem cn_8 : (RN 8 ≠ "java/lang/invoke/MethodHandle" ∧ RN 8 ≠ "java/lang/invoke/VarHandle") ∧ plainName (RN 8) = true := by decide +kernel
theorem cini_9 : Cond.initialized (RN 9) ∈ TB := TB_in 66 (by decide +kernel) rfl
theorem cn_9 : (RN 9 ≠ "java/lang/invoke/MethodHandle" ∧ RN 9 ≠ "java/lang/invoke/VarHandle") ∧ plainName (RN 9) = true := by decide +kernel
theorem cini_10 : Cond.initialized (RN 10) ∈ TB := TB_in 72 (by decide +kernel) rfl
theorem cn_10 : (RN 10 ≠ "java/lang/invoke/MethodHandle" ∧ RN 10 ≠ "java/lang/invoke/VarHandle") ∧ plainName (RN 10) = true := by decide +kernel
theorem cini_11 : Cond.initialized (RN 11) ∈ TB := TB_in 65 (by decide +kernel) rfl
theorem cn_11 : (RN 11 ≠ "java/lang/invoke/MethodHandle" ∧ RN 11 ≠ "java/lang/invoke/VarHandle") ∧ plainName (RN 11) = true := by decide +kernel
theorem cini_12 : Cond.initialized (RN 12) ∈ TB := TB_in 82 (by decide +kernel) rfl
theorem cn_12 : (RN 12 ≠ "java/lang/invoke/MethodHandle" ∧ RN 12 ≠ "java/lang/invoke/VarHandle") ∧ plainName (RN 12) = true := by decide +kernel
theorem cini_13 : Cond.initialized (RN 13) ∈ TB := TB_in 80 (by decide +kernel) rfl
theorem cini_14 : Cond.initialized (RN 14) ∈ TB := TB_in 73 (by decide +kernel) rfl
theorem cn_14 : (RN 14 ≠ "java/lang/invoke/MethodHandle" ∧ RN 14 ≠ "java/lang/invoke/VarHandle") ∧ plainName (RN 14) = true := by decide +kernel
theorem cini_15 : Cond.initialized (RN 15) ∈ TB := TB_in 74 (by decide +kernel) rfl
theorem cn_15 : (RN 15 ≠ "java/lang/invoke/MethodHandle" ∧ RN 15 ≠ "java/lang/invoke/VarHandle") ∧ plainName (RN 15) = true := by decide +kernel
theorem cini_16 : Cond.initialized (RN 16) ∈ TB := TB_in 76 (by decide +kernel) rfl
theorem cn_16 : (RN 16 ≠ "java/lang/invoke/MethodHandle" ∧ RN 16 ≠ "java/lang/invoke/VarHandle") ∧ plainName (RN 16) = true := by decide +kernel
theorem cini_17 : Cond.initialized (RN 17) ∈ TB := TB_in 75 (by decide +kernel) rfl
theorem cn_17 : (RN 17 ≠ "java/lang/invoke/MethodHandle" ∧ RN 17 ≠ "java/lang/invoke/VarHandle") ∧ plainName (RN 17) = true := by decide +kernel
theorem mB_MX0_isSum : mB MX0_isSum := ⟨⟨TB_in 857 (by decide +kernel) rfl, cini_0⟩, cn_0.1, cn_0.2, rfl⟩
theorem mS_MX0_isSum : mS MX0_isSum := ⟨TB_in 856 (by decide +kernel) rfl, by decide +kernel⟩
theorem mB_MX0_progressionLength : mB MX0_progressionLength := ⟨⟨TB_in 877 (by decide +kernel) rfl, cini_0⟩, cn_0.1, cn_0.2, rfl⟩
theorem mS_MX0_progressionLength : mS MX0_progressionLength := ⟨TB_in 876 (by decide +kernel) rfl, by decide +kernel⟩
theorem mB_MX0_pairsBy : mB MX0_pairsBy := ⟨⟨TB_in 828 (by decide +kernel) rfl, cini_0⟩, cn_0.1, cn_0.2, rfl⟩
theorem mS_MX0_pairsBy : mS MX0_pairsBy := ⟨TB_in 827 (by decide +kernel) rfl, by decide +kernel⟩
theorem mB_MX0_triplesBy : mB MX0_triplesBy := ⟨⟨TB_in 837 (by decide +kernel) rfl, cini_0⟩, cn_0.1, cn_0.2, rfl⟩
theorem mS_MX0_triplesBy : mS MX0_triplesBy := ⟨TB_in 836 (by decide +kernel) rfl, by decide +kernel⟩
theorem mB_MX0_waysToSum : mB MX0_waysToSum := ⟨⟨TB_in 844 (by decide +kernel) rfl, cini_0⟩, cn_0.1, cn_0.2, rfl⟩
theorem mS_MX0_waysToSum : mS MX0_waysToSum := ⟨TB_in 843 (by decide +kernel) rfl, by decide +kernel⟩
theorem mB_MX0_firstNoSum : mB MX0_firstNoSum := ⟨⟨TB_in 851 (by decide +kernel) rfl, cini_0⟩, cn_0.1, cn_0.2, rfl⟩
theorem mS_MX0_firstNoSum : mS MX0_firstNoSum := ⟨TB_in 850 (by decide +kernel) rfl, by decide +kernel⟩
theorem mB_MX0_longestProgressionStart : mB MX0_longestProgressionStart := ⟨⟨TB_in 874 (by decide +kernel) rfl, cini_0⟩, cn_0.1, cn_0.2, rfl⟩
theorem mS_MX0_longestProgressionStart : mS MX0_longestProgressionStart := ⟨TB_in 873 (by decide +kernel) rfl, by decide +kernel⟩
theorem mB_MX0_restsBy : mB MX0_restsBy := ⟨⟨TB_in 885 (by decide +kernel) rfl, cini_0⟩, cn_0.1, cn_0.2, rfl⟩
theorem mS_MX0_restsBy : mS MX0_restsBy := ⟨TB_in 884 (by decide +kernel) rfl, by decide +kernel⟩
theorem mB_MX1_leastNotIn : mB MX1_leastNotIn := ⟨⟨TB_in 979 (by decide +kernel) rfl, cini_1⟩, cn_1.1, cn_1.2, rfl⟩
theorem mS_MX1_leastNotIn : mS MX1_leastNotIn := ⟨TB_in 978 (by decide +kernel) rfl, by decide +kernel⟩
theorem mB_MX1_lesserOf : mB MX1_lesserOf := ⟨⟨TB_in 994 (by decide +kernel) rfl, cini_1⟩, cn_1.1, cn_1.2, rfl⟩
theorem mS_MX1_lesserOf : mS MX1_lesserOf := ⟨TB_in 993 (by decide +kernel) rfl, by decide +kernel⟩
theorem mB_MX1_countCommon : mB MX1_countCommon := ⟨⟨TB_in 971 (by decide +kernel) rfl, cini_1⟩, cn_1.1, cn_1.2, rfl⟩
theorem mS_MX1_countCommon : mS MX1_countCommon := ⟨TB_in 970 (by decide +kernel) rfl, by decide +kernel⟩
theorem mB_MX1_leastInOneAlone : mB MX1_leastInOneAlone := ⟨⟨TB_in 976 (by decide +kernel) rfl, cini_1⟩, cn_1.1, cn_1.2, rfl⟩
theorem mS_MX1_leastInOneAlone : mS MX1_leastInOneAlone := ⟨TB_in 975 (by decide +kernel) rfl, by decide +kernel⟩
theorem mB_MX1_leading : mB MX1_leading := ⟨⟨TB_in 987 (by decide +kernel) rfl, cini_1⟩, cn_1.1, cn_1.2, rfl⟩
theorem mS_MX1_leading : mS MX1_leading := ⟨TB_in 986 (by decide +kernel) rfl, by decide +kernel⟩
theorem mB_MX1_likeRounds : mB MX1_likeRounds := ⟨⟨TB_in 1001 (by decide +kernel) rfl, cini_1⟩, cn_1.1, cn_1.2, rfl⟩
theorem mS_MX1_likeRounds : mS MX1_likeRounds := ⟨TB_in 1000 (by decide +kernel) rfl, by decide +kernel⟩
theorem mB_MX1_pickedByPlace : mB MX1_pickedByPlace := ⟨⟨TB_in 1009 (by decide +kernel) rfl, cini_1⟩, cn_1.1, cn_1.2, rfl⟩
theorem mS_MX1_pickedByPlace : mS MX1_pickedByPlace := ⟨TB_in 1008 (by decide +kernel) rfl, by decide +kernel⟩
theorem mB_MX1_countMeetings : mB MX1_countMeetings := ⟨⟨TB_in 1051 (by decide +kernel) rfl, cini_1⟩, cn_1.1, cn_1.2, rfl⟩
theorem mS_MX1_countMeetings : mS MX1_countMeetings := ⟨TB_in 1050 (by decide +kernel) rfl, by decide +kernel⟩
theorem mB_MX1_countLikePlaces : mB MX1_countLikePlaces := ⟨⟨TB_in 1058 (by decide +kernel) rfl, cini_1⟩, cn_1.1, cn_1.2, rfl⟩
theorem mS_MX1_countLikePlaces : mS MX1_countLikePlaces := ⟨TB_in 1057 (by decide +kernel) rfl, by decide +kernel⟩
theorem mB_MX1_firstUnlikePlace : mB MX1_firstUnlikePlace := ⟨⟨TB_in 1061 (by decide +kernel) rfl, cini_1⟩, cn_1.1, cn_1.2, rfl⟩
theorem mS_MX1_firstUnlikePlace : mS MX1_firstUnlikePlace := ⟨TB_in 1060 (by decide +kernel) rfl, by decide +kernel⟩
theorem mB_MX2_numberAt : mB MX2_numberAt := ⟨⟨TB_in 1018 (by decide +kernel) rfl, cini_2⟩, cn_2.1, cn_2.2, rfl⟩
theorem mV_MX2_numberAt : mV MX2_numberAt := ⟨⟨TB_in 1016 (by decide +kernel) rfl, TB_in 1017 (by decide +kernel) rfl⟩, ⟨by decide +kernel, by decide⟩, by decide, rfl⟩
theorem mB_MX2_init : mB MX2_init := ⟨⟨TB_in 170 (by decide +kernel) rfl, cini_2⟩, cn_2.1, cn_2.2, rfl⟩
theorem mC_MX2_init : mC MX2_init := ⟨TB_in 169 (by decide +kernel) rfl, ⟨by decide +kernel, by decide⟩, rfl, rfl⟩
theorem mB_MX2_append : mB MX2_append := ⟨⟨TB_in 505 (by decide +kernel) rfl, cini_2⟩, cn_2.1, cn_2.2, rfl⟩
theorem mV_MX2_append : mV MX2_append := ⟨⟨TB_in 503 (by decide +kernel) rfl, TB_in 504 (by decide +kernel) rfl⟩, ⟨by decide +kernel, by decide⟩, by decide, rfl⟩
theorem mB_MX2_takeOver : mB MX2_takeOver := ⟨⟨TB_in 532 (by decide +kernel) rfl, cini_2⟩, cn_2.1, cn_2.2, rfl⟩
theorem mV_MX2_takeOver : mV MX2_takeOver := ⟨⟨TB_in 530 (by decide +kernel) rfl, TB_in 531 (by decide +kernel) rfl⟩, ⟨by decide +kernel, by decide⟩, by decide, rfl⟩
theorem mB_MX2_countIn : mB MX2_countIn := ⟨⟨TB_in 1028 (by decide +kernel) rfl, cini_2⟩, cn_2.1, cn_2.2, rfl⟩
theorem mV_MX2_countIn : mV MX2_countIn := ⟨⟨TB_in 1026 (by decide +kernel) rfl, TB_in 1027 (by decide +kernel) rfl⟩, ⟨by decide +kernel, by decide⟩, by decide, rfl⟩
theorem mB_MX2_firstNotIn : mB MX2_firstNotIn := ⟨⟨TB_in 1034 (by decide +kernel) rfl, cini_2⟩, cn_2.1, cn_2.2, rfl⟩
theorem mV_MX2_firstNotIn : mV MX2_firstNotIn := ⟨⟨TB_in 1032 (by decide +kernel) rfl, TB_in 1033 (by decide +kernel) rfl⟩, ⟨by decide +kernel, by decide⟩, by decide, rfl⟩
theorem mB_MX2_standsTogetherIn : mB MX2_standsTogetherIn := ⟨⟨TB_in 1038 (by decide +kernel) rfl, cini_2⟩, cn_2.1, cn_2.2, rfl⟩
theorem mV_MX2_standsTogetherIn : mV MX2_standsTogetherIn := ⟨⟨TB_in 1036 (by decide +kernel) rfl, TB_in 1037 (by decide +kernel) rfl⟩, ⟨by decide +kernel, by decide⟩, by decide, rfl⟩
theorem mB_MX3_countFrom : mB MX3_countFrom := ⟨⟨TB_in 625 (by decide +kernel) rfl, cini_3⟩, cn_3.1, cn_3.2, rfl⟩
theorem mS_MX3_countFrom : mS MX3_countFrom := ⟨TB_in 624 (by decide +kernel) rfl, by decide +kernel⟩
theorem mB_MX3_firstStruckBy : mB MX3_firstStruckBy := ⟨⟨TB_in 631 (by decide +kernel) rfl, cini_3⟩, cn_3.1, cn_3.2, rfl⟩
theorem mS_MX3_firstStruckBy : mS MX3_firstStruckBy := ⟨TB_in 630 (by decide +kernel) rfl, by decide +kernel⟩
theorem mB_MX3_roundOfEvent : mB MX3_roundOfEvent := ⟨⟨TB_in 724 (by decide +kernel) rfl, cini_3⟩, cn_3.1, cn_3.2, rfl⟩
theorem mS_MX3_roundOfEvent : mS MX3_roundOfEvent := ⟨TB_in 723 (by decide +kernel) rfl, by decide +kernel⟩
theorem mB_MX3_placeAhead : mB MX3_placeAhead := ⟨⟨TB_in 628 (by decide +kernel) rfl, cini_3⟩, cn_3.1, cn_3.2, rfl⟩
theorem mS_MX3_placeAhead : mS MX3_placeAhead := ⟨TB_in 627 (by decide +kernel) rfl, by decide +kernel⟩
theorem mB_MX3_indexAhead : mB MX3_indexAhead := ⟨⟨TB_in 734 (by decide +kernel) rfl, cini_3⟩, cn_3.1, cn_3.2, rfl⟩
theorem mS_MX3_indexAhead : mS MX3_indexAhead := ⟨TB_in 733 (by decide +kernel) rfl, by decide +kernel⟩
theorem mB_MX3_ofRound : mB MX3_ofRound := ⟨⟨TB_in 620 (by decide +kernel) rfl, cini_3⟩, cn_3.1, cn_3.2, rfl⟩
theorem mS_MX3_ofRound : mS MX3_ofRound := ⟨TB_in 619 (by decide +kernel) rfl, by decide +kernel⟩
theorem mB_MX3_ofStruck : mB MX3_ofStruck := ⟨⟨TB_in 719 (by decide +kernel) rfl, cini_3⟩, cn_3.1, cn_3.2, rfl⟩
theorem mS_MX3_ofStruck : mS MX3_ofStruck := ⟨TB_in 718 (by decide +kernel) rfl, by decide +kernel⟩
theorem mB_MX3_ledBack : mB MX3_ledBack := ⟨⟨TB_in 731 (by decide +kernel) rfl, cini_3⟩, cn_3.1, cn_3.2, rfl⟩
theorem mS_MX3_ledBack : mS MX3_ledBack := ⟨TB_in 730 (by decide +kernel) rfl, by decide +kernel⟩
theorem mB_MX3_ledOn : mB MX3_ledOn := ⟨⟨TB_in 741 (by decide +kernel) rfl, cini_3⟩, cn_3.1, cn_3.2, rfl⟩
theorem mS_MX3_ledOn : mS MX3_ledOn := ⟨TB_in 740 (by decide +kernel) rfl, by decide +kernel⟩
theorem mB_MX3_isTouchedBetweenRounds : mB MX3_isTouchedBetweenRounds := ⟨⟨TB_in 765 (by decide +kernel) rfl, cini_3⟩, cn_3.1, cn_3.2, rfl⟩
theorem mS_MX3_isTouchedBetweenRounds : mS MX3_isTouchedBetweenRounds := ⟨TB_in 764 (by decide +kernel) rfl, by decide +kernel⟩
theorem mB_MX3_struckNumber : mB MX3_struckNumber := ⟨⟨TB_in 772 (by decide +kernel) rfl, cini_3⟩, cn_3.1, cn_3.2, rfl⟩
theorem mS_MX3_struckNumber : mS MX3_struckNumber := ⟨TB_in 771 (by decide +kernel) rfl, by decide +kernel⟩
theorem mB_MX4_append : mB MX4_append := ⟨⟨TB_in 1073 (by decide +kernel) rfl, cini_4⟩, cn_4.1, cn_4.2, rfl⟩
theorem mV_MX4_append : mV MX4_append := ⟨⟨TB_in 1071 (by decide +kernel) rfl, TB_in 1072 (by decide +kernel) rfl⟩, ⟨by decide +kernel, by decide⟩, by decide, rfl⟩
theorem mB_MX4_appendNumber : mB MX4_appendNumber := ⟨⟨TB_in 1079 (by decide +kernel) rfl, cini_4⟩, cn_4.1, cn_4.2, rfl⟩
theorem mV_MX4_appendNumber : mV MX4_appendNumber := ⟨⟨TB_in 1077 (by decide +kernel) rfl, TB_in 1078 (by decide +kernel) rfl⟩, ⟨by decide +kernel, by decide⟩, by decide, rfl⟩
theorem mB_MX4_init : mB MX4_init := ⟨⟨TB_in 274 (by decide +kernel) rfl, cini_4⟩, cn_4.1, cn_4.2, rfl⟩
theorem mC_MX4_init : mC MX4_init := ⟨TB_in 273 (by decide +kernel) rfl, ⟨by decide +kernel, by decide⟩, rfl, rfl⟩
theorem mB_MX4_write : mB MX4_write := ⟨⟨TB_in 1069 (by decide +kernel) rfl, cini_4⟩, cn_4.1, cn_4.2, rfl⟩
theorem mV_MX4_write : mV MX4_write := ⟨⟨TB_in 1067 (by decide +kernel) rfl, TB_in 1068 (by decide +kernel) rfl⟩, ⟨by decide +kernel, by decide⟩, by decide, rfl⟩
theorem mB_MX5_appendInt : mB MX5_appendInt := ⟨⟨TB_in 321 (by decide +kernel) rfl, cini_5⟩, cn_5.1, cn_5.2, rfl⟩
theorem mV_MX5_appendInt : mV MX5_appendInt := ⟨⟨TB_in 319 (by decide +kernel) rfl, TB_in 320 (by decide +kernel) rfl⟩, ⟨by decide +kernel, by decide⟩, by decide, rfl⟩
theorem mB_MX5_look : mB MX5_look := ⟨⟨TB_in 340 (by decide +kernel) rfl, cini_5⟩, cn_5.1, cn_5.2, rfl⟩
theorem mV_MX5_look : mV MX5_look := ⟨⟨TB_in 338 (by decide +kernel) rfl, TB_in 339 (by decide +kernel) rfl⟩, ⟨by decide +kernel, by decide⟩, by decide, rfl⟩
theorem mB_MX5_is : mB MX5_is := ⟨⟨TB_in 358 (by decide +kernel) rfl, cini_5⟩, cn_5.1, cn_5.2, rfl⟩
theorem mV_MX5_is : mV MX5_is := ⟨⟨TB_in 356 (by decide +kernel) rfl, TB_in 357 (by decide +kernel) rfl⟩, ⟨by decide +kernel, by decide⟩, by decide, rfl⟩
theorem mB_MX5_readSieve : mB MX5_readSieve := ⟨⟨TB_in 410 (by decide +kernel) rfl, cini_5⟩, cn_5.1, cn_5.2, rfl⟩
theorem mV_MX5_readSieve : mV MX5_readSieve := ⟨⟨TB_in 408 (by decide +kernel) rfl, TB_in 409 (by decide +kernel) rfl⟩, ⟨by decide +kernel, by decide⟩, by decide, rfl⟩
theorem mB_MX5_readList : mB MX5_readList := ⟨⟨TB_in 497 (by decide +kernel) rfl, cini_5⟩, cn_5.1, cn_5.2, rfl⟩
theorem mV_MX5_readList : mV MX5_readList := ⟨⟨TB_in 495 (by decide +kernel) rfl, TB_in 496 (by decide +kernel) rfl⟩, ⟨by decide +kernel, by decide⟩, by decide, rfl⟩
theorem mB_MX5_unexpected : mB MX5_unexpected := ⟨⟨TB_in 444 (by decide +kernel) rfl, cini_5⟩, cn_5.1, cn_5.2, rfl⟩
theorem mV_MX5_unexpected : mV MX5_unexpected := ⟨⟨TB_in 442 (by decide +kernel) rfl, TB_in 443 (by decide +kernel) rfl⟩, ⟨by decide +kernel, by decide⟩, by decide, rfl⟩
theorem mB_MX5_sieveAt : mB MX5_sieveAt := ⟨⟨TB_in 414 (by decide +kernel) rfl, cini_5⟩, cn_5.1, cn_5.2, rfl⟩
theorem mV_MX5_sieveAt : mV MX5_sieveAt := ⟨⟨TB_in 412 (by decide +kernel) rfl, TB_in 413 (by decide +kernel) rfl⟩, ⟨by decide +kernel, by decide⟩, by decide, rfl⟩
theorem mB_MX5_refuse : mB MX5_refuse := ⟨⟨TB_in 421 (by decide +kernel) rfl, cini_5⟩, cn_5.1, cn_5.2, rfl⟩
theorem mV_MX5_refuse : mV MX5_refuse := ⟨⟨TB_in 419 (by decide +kernel) rfl, TB_in 420 (by decide +kernel) rfl⟩, ⟨by decide +kernel, by decide⟩, by decide, rfl⟩
theorem mB_MX5_readName : mB MX5_readName := ⟨⟨TB_in 425 (by decide +kernel) rfl, cini_5⟩, cn_5.1, cn_5.2, rfl⟩
theorem mV_MX5_readName : mV MX5_readName := ⟨⟨TB_in 423 (by decide +kernel) rfl, TB_in 424 (by decide +kernel) rfl⟩, ⟨by decide +kernel, by decide⟩, by decide, rfl⟩
theorem mB_MX5_readWord : mB MX5_readWord := ⟨⟨TB_in 455 (by decide +kernel) rfl, cini_5⟩, cn_5.1, cn_5.2, rfl⟩
theorem mV_MX5_readWord : mV MX5_readWord := ⟨⟨TB_in 453 (by decide +kernel) rfl, TB_in 454 (by decide +kernel) rfl⟩, ⟨by decide +kernel, by decide⟩, by decide, rfl⟩
theorem mB_MX5_readNumber : mB MX5_readNumber := ⟨⟨TB_in 459 (by decide +kernel) rfl, cini_5⟩, cn_5.1, cn_5.2, rfl⟩
theorem mV_MX5_readNumber : mV MX5_readNumber := ⟨⟨TB_in 457 (by decide +kernel) rfl, TB_in 458 (by decide +kernel) rfl⟩, ⟨by decide +kernel, by decide⟩, by decide, rfl⟩
theorem mB_MX5_kindOfLaw : mB MX5_kindOfLaw := ⟨⟨TB_in 463 (by decide +kernel) rfl, cini_5⟩, cn_5.1, cn_5.2, rfl⟩
theorem mV_MX5_kindOfLaw : mV MX5_kindOfLaw := ⟨⟨TB_in 461 (by decide +kernel) rfl, TB_in 462 (by decide +kernel) rfl⟩, ⟨by decide +kernel, by decide⟩, by decide, rfl⟩
theorem mB_MX5_readFixed : mB MX5_readFixed := ⟨⟨TB_in 481 (by decide +kernel) rfl, cini_5⟩, cn_5.1, cn_5.2, rfl⟩
theorem mV_MX5_readFixed : mV MX5_readFixed := ⟨⟨TB_in 479 (by decide +kernel) rfl, TB_in 480 (by decide +kernel) rfl⟩, ⟨by decide +kernel, by decide⟩, by decide, rfl⟩
theorem mB_MX5_readTold : mB MX5_readTold := ⟨⟨TB_in 485 (by decide +kernel) rfl, cini_5⟩, cn_5.1, cn_5.2, rfl⟩
theorem mV_MX5_readTold : mV MX5_readTold := ⟨⟨TB_in 483 (by decide +kernel) rfl, TB_in 484 (by decide +kernel) rfl⟩, ⟨by decide +kernel, by decide⟩, by decide, rfl⟩
theorem mB_MX5_readSign : mB MX5_readSign := ⟨⟨TB_in 493 (by decide +kernel) rfl, cini_5⟩, cn_5.1, cn_5.2, rfl⟩
theorem mV_MX5_readSign : mV MX5_readSign := ⟨⟨TB_in 491 (by decide +kernel) rfl, TB_in 492 (by decide +kernel) rfl⟩, ⟨by decide +kernel, by decide⟩, by decide, rfl⟩
theorem mB_MX5_refuseSurplus : mB MX5_refuseSurplus := ⟨⟨TB_in 489 (by decide +kernel) rfl, cini_5⟩, cn_5.1, cn_5.2, rfl⟩
theorem mV_MX5_refuseSurplus : mV MX5_refuseSurplus := ⟨⟨TB_in 487 (by decide +kernel) rfl, TB_in 488 (by decide +kernel) rfl⟩, ⟨by decide +kernel, by decide⟩, by decide, rfl⟩
theorem mB_MX5_listAt : mB MX5_listAt := ⟨⟨TB_in 501 (by decide +kernel) rfl, cini_5⟩, cn_5.1, cn_5.2, rfl⟩
theorem mV_MX5_listAt : mV MX5_listAt := ⟨⟨TB_in 499 (by decide +kernel) rfl, TB_in 500 (by decide +kernel) rfl⟩, ⟨by decide +kernel, by decide⟩, by decide, rfl⟩
theorem mB_MX5_isReserved : mB MX5_isReserved := ⟨⟨TB_in 429 (by decide +kernel) rfl, cini_5⟩, cn_5.1, cn_5.2, rfl⟩
theorem mV_MX5_isReserved : mV MX5_isReserved := ⟨⟨TB_in 427 (by decide +kernel) rfl, TB_in 428 (by decide +kernel) rfl⟩, ⟨by decide +kernel, by decide⟩, by decide, rfl⟩
theorem mB_MX5_isSameWord : mB MX5_isSameWord := ⟨⟨TB_in 451 (by decide +kernel) rfl, cini_5⟩, cn_5.1, cn_5.2, rfl⟩
theorem mV_MX5_isSameWord : mV MX5_isSameWord := ⟨⟨TB_in 449 (by decide +kernel) rfl, TB_in 450 (by decide +kernel) rfl⟩, ⟨by decide +kernel, by decide⟩, by decide, rfl⟩
theorem mB_MX5_byteAt : mB MX5_byteAt := ⟨⟨TB_in 344 (by decide +kernel) rfl, cini_5⟩, cn_5.1, cn_5.2, rfl⟩
theorem mV_MX5_byteAt : mV MX5_byteAt := ⟨⟨TB_in 342 (by decide +kernel) rfl, TB_in 343 (by decide +kernel) rfl⟩, ⟨by decide +kernel, by decide⟩, by decide, rfl⟩
theorem mB_MX5_isBlank : mB MX5_isBlank := ⟨⟨TB_in 347 (by decide +kernel) rfl, cini_5⟩, cn_5.1, cn_5.2, rfl⟩
theorem mS_MX5_isBlank : mS MX5_isBlank := ⟨TB_in 346 (by decide +kernel) rfl, by decide +kernel⟩
theorem mB_MX5_isLetter : mB MX5_isLetter := ⟨⟨TB_in 350 (by decide +kernel) rfl, cini_5⟩, cn_5.1, cn_5.2, rfl⟩
theorem mS_MX5_isLetter : mS MX5_isLetter := ⟨TB_in 349 (by decide +kernel) rfl, by decide +kernel⟩
theorem mB_MX5_isDigit : mB MX5_isDigit := ⟨⟨TB_in 353 (by decide +kernel) rfl, cini_5⟩, cn_5.1, cn_5.2, rfl⟩
theorem mS_MX5_isDigit : mS MX5_isDigit := ⟨TB_in 352 (by decide +kernel) rfl, by decide +kernel⟩
theorem mB_MX5_init : mB MX5_init := ⟨⟨TB_in 95 (by decide +kernel) rfl, cini_5⟩, cn_5.1, cn_5.2, rfl⟩
theorem mC_MX5_init : mC MX5_init := ⟨TB_in 94 (by decide +kernel) rfl, ⟨by decide +kernel, by decide⟩, rfl, rfl⟩
theorem mB_MX5_append : mB MX5_append := ⟨⟨TB_in 317 (by decide +kernel) rfl, cini_5⟩, cn_5.1, cn_5.2, rfl⟩
theorem mV_MX5_append : mV MX5_append := ⟨⟨TB_in 315 (by decide +kernel) rfl, TB_in 316 (by decide +kernel) rfl⟩, ⟨by decide +kernel, by decide⟩, by decide, rfl⟩
theorem mB_MX5_readText : mB MX5_readText := ⟨⟨TB_in 336 (by decide +kernel) rfl, cini_5⟩, cn_5.1, cn_5.2, rfl⟩
theorem mV_MX5_readText : mV MX5_readText := ⟨⟨TB_in 334 (by decide +kernel) rfl, TB_in 335 (by decide +kernel) rfl⟩, ⟨by decide +kernel, by decide⟩, by decide, rfl⟩
theorem mB_MX6_sieveAt : mB MX6_sieveAt := ⟨⟨TB_in 514 (by decide +kernel) rfl, cini_6⟩, cn_6.1, cn_6.2, rfl⟩
theorem mV_MX6_sieveAt : mV MX6_sieveAt := ⟨⟨TB_in 512 (by decide +kernel) rfl, TB_in 513 (by decide +kernel) rfl⟩, ⟨by decide +kernel, by decide⟩, by decide, rfl⟩
theorem mB_MX6_listAt : mB MX6_listAt := ⟨⟨TB_in 527 (by decide +kernel) rfl, cini_6⟩, cn_6.1, cn_6.2, rfl⟩
theorem mV_MX6_listAt : mV MX6_listAt := ⟨⟨TB_in 525 (by decide +kernel) rfl, TB_in 526 (by decide +kernel) rfl⟩, ⟨by decide +kernel, by decide⟩, by decide, rfl⟩
theorem mB_MX6_forgetOldest : mB MX6_forgetOldest := ⟨⟨TB_in 594 (by decide +kernel) rfl, cini_6⟩, cn_6.1, cn_6.2, rfl⟩
theorem mV_MX6_forgetOldest : mV MX6_forgetOldest := ⟨⟨TB_in 592 (by decide +kernel) rfl, TB_in 593 (by decide +kernel) rfl⟩, ⟨by decide +kernel, by decide⟩, by decide, rfl⟩
theorem mB_MX6_keepAct : mB MX6_keepAct := ⟨⟨TB_in 590 (by decide +kernel) rfl, cini_6⟩, cn_6.1, cn_6.2, rfl⟩
theorem mV_MX6_keepAct : mV MX6_keepAct := ⟨⟨TB_in 588 (by decide +kernel) rfl, TB_in 589 (by decide +kernel) rfl⟩, ⟨by decide +kernel, by decide⟩, by decide, rfl⟩
theorem mB_MX6_openAt : mB MX6_openAt := ⟨⟨TB_in 703 (by decide +kernel) rfl, cini_6⟩, cn_6.1, cn_6.2, rfl⟩
theorem mV_MX6_openAt : mV MX6_openAt := ⟨⟨TB_in 701 (by decide +kernel) rfl, TB_in 702 (by decide +kernel) rfl⟩, ⟨by decide +kernel, by decide⟩, by decide, rfl⟩
theorem mB_MX6_init : mB MX6_init := ⟨⟨TB_in 236 (by decide +kernel) rfl, cini_6⟩, cn_6.1, cn_6.2, rfl⟩
theorem mC_MX6_init : mC MX6_init := ⟨TB_in 235 (by decide +kernel) rfl, ⟨by decide +kernel, by decide⟩, rfl, rfl⟩
theorem mB_MX6_takeOver : mB MX6_takeOver := ⟨⟨TB_in 510 (by decide +kernel) rfl, cini_6⟩, cn_6.1, cn_6.2, rfl⟩
theorem mV_MX6_takeOver : mV MX6_takeOver := ⟨⟨TB_in 508 (by decide +kernel) rfl, TB_in 509 (by decide +kernel) rfl⟩, ⟨by decide +kernel, by decide⟩, by decide, rfl⟩
theorem mB_MX6_add : mB MX6_add := ⟨⟨TB_in 681 (by decide +kernel) rfl, cini_6⟩, cn_6.1, cn_6.2, rfl⟩
theorem mV_MX6_add : mV MX6_add := ⟨⟨TB_in 679 (by decide +kernel) rfl, TB_in 680 (by decide +kernel) rfl⟩, ⟨by decide +kernel, by decide⟩, by decide, rfl⟩
theorem mB_MX6_remove : mB MX6_remove := ⟨⟨TB_in 691 (by decide +kernel) rfl, cini_6⟩, cn_6.1, cn_6.2, rfl⟩
theorem mV_MX6_remove : mV MX6_remove := ⟨⟨TB_in 689 (by decide +kernel) rfl, TB_in 690 (by decide +kernel) rfl⟩, ⟨by decide +kernel, by decide⟩, by decide, rfl⟩
theorem mB_MX6_goBack : mB MX6_goBack := ⟨⟨TB_in 699 (by decide +kernel) rfl, cini_6⟩, cn_6.1, cn_6.2, rfl⟩
theorem mV_MX6_goBack : mV MX6_goBack := ⟨⟨TB_in 697 (by decide +kernel) rfl, TB_in 698 (by decide +kernel) rfl⟩, ⟨by decide +kernel, by decide⟩, by decide, rfl⟩
theorem mB_MX7_numberAt : mB MX7_numberAt := ⟨⟨TB_in 569 (by decide +kernel) rfl, cini_7⟩, cn_7.1, cn_7.2, rfl⟩
theorem mV_MX7_numberAt : mV MX7_numberAt := ⟨⟨TB_in 567 (by decide +kernel) rfl, TB_in 568 (by decide +kernel) rfl⟩, ⟨by decide +kernel, by decide⟩, by decide, rfl⟩
theorem mB_MX7_has : mB MX7_has := ⟨⟨TB_in 648 (by decide +kernel) rfl, cini_7⟩, cn_7.1, cn_7.2, rfl⟩
theorem mV_MX7_has : mV MX7_has := ⟨⟨TB_in 646 (by decide +kernel) rfl, TB_in 647 (by decide +kernel) rfl⟩, ⟨by decide +kernel, by decide⟩, by decide, rfl⟩
theorem mB_MX7_countUpTo : mB MX7_countUpTo := ⟨⟨TB_in 656 (by decide +kernel) rfl, cini_7⟩, cn_7.1, cn_7.2, rfl⟩
theorem mV_MX7_countUpTo : mV MX7_countUpTo := ⟨⟨TB_in 654 (by decide +kernel) rfl, TB_in 655 (by decide +kernel) rfl⟩, ⟨by decide +kernel, by decide⟩, by decide, rfl⟩
theorem mB_MX7_placeOf : mB MX7_placeOf := ⟨⟨TB_in 644 (by decide +kernel) rfl, cini_7⟩, cn_7.1, cn_7.2, rfl⟩
theorem mV_MX7_placeOf : mV MX7_placeOf := ⟨⟨TB_in 642 (by decide +kernel) rfl, TB_in 643 (by decide +kernel) rfl⟩, ⟨by decide +kernel, by decide⟩, by decide, rfl⟩
theorem mB_MX7_indexOf : mB MX7_indexOf := ⟨⟨TB_in 604 (by decide +kernel) rfl, cini_7⟩, cn_7.1, cn_7.2, rfl⟩
theorem mV_MX7_indexOf : mV MX7_indexOf := ⟨⟨TB_in 602 (by decide +kernel) rfl, TB_in 603 (by decide +kernel) rfl⟩, ⟨by decide +kernel, by decide⟩, by decide, rfl⟩
theorem mB_MX7_isHere : mB MX7_isHere := ⟨⟨TB_in 652 (by decide +kernel) rfl, cini_7⟩, cn_7.1, cn_7.2, rfl⟩
theorem mV_MX7_isHere : mV MX7_isHere := ⟨⟨TB_in 650 (by decide +kernel) rfl, TB_in 651 (by decide +kernel) rfl⟩, ⟨by decide +kernel, by decide⟩, by decide, rfl⟩
theorem mB_MX7_firstNumber : mB MX7_firstNumber := ⟨⟨TB_in 476 (by decide +kernel) rfl, cini_7⟩, cn_7.1, cn_7.2, rfl⟩
theorem mV_MX7_firstNumber : mV MX7_firstNumber := ⟨⟨TB_in 474 (by decide +kernel) rfl, TB_in 475 (by decide +kernel) rfl⟩, ⟨by decide +kernel, by decide⟩, by decide, rfl⟩
theorem mB_MX7_init : mB MX7_init := ⟨⟨TB_in 104 (by decide +kernel) rfl, cini_7⟩, cn_7.1, cn_7.2, rfl⟩
theorem mC_MX7_init : mC MX7_init := ⟨TB_in 103 (by decide +kernel) rfl, ⟨by decide +kernel, by decide⟩, rfl, rfl⟩
theorem mB_MX7_set : mB MX7_set := ⟨⟨TB_in 467 (by decide +kernel) rfl, cini_7⟩, cn_7.1, cn_7.2, rfl⟩
theorem mV_MX7_set : mV MX7_set := ⟨⟨TB_in 465 (by decide +kernel) rfl, TB_in 466 (by decide +kernel) rfl⟩, ⟨by decide +kernel, by decide⟩, by decide, rfl⟩
theorem mB_MX7_takeOver : mB MX7_takeOver := ⟨⟨TB_in 520 (by decide +kernel) rfl, cini_7⟩, cn_7.1, cn_7.2, rfl⟩
theorem mV_MX7_takeOver : mV MX7_takeOver := ⟨⟨TB_in 518 (by decide +kernel) rfl, TB_in 519 (by decide +kernel) rfl⟩, ⟨by decide +kernel, by decide⟩, by decide, rfl⟩
theorem mB_MX7_begin : mB MX7_begin := ⟨⟨TB_in 471 (by decide +kernel) rfl, cini_7⟩, cn_7.1, cn_7.2, rfl⟩
theorem mV_MX7_begin : mV MX7_begin := ⟨⟨TB_in 469 (by decide +kernel) rfl, TB_in 470 (by decide +kernel) rfl⟩, ⟨by decide +kernel, by decide⟩, by decide, rfl⟩
theorem mB_MX7_nextGap : mB MX7_nextGap := ⟨⟨TB_in 560 (by decide +kernel) rfl, cini_7⟩, cn_7.1, cn_7.2, rfl⟩
theorem mV_MX7_nextGap : mV MX7_nextGap := ⟨⟨TB_in 558 (by decide +kernel) rfl, TB_in 559 (by decide +kernel) rfl⟩, ⟨by decide +kernel, by decide⟩, by decide, rfl⟩
theorem mB_MX7_gapByLaw : mB MX7_gapByLaw := ⟨⟨TB_in 564 (by decide +kernel) rfl, cini_7⟩, cn_7.1, cn_7.2, rfl⟩
theorem mV_MX7_gapByLaw : mV MX7_gapByLaw := ⟨⟨TB_in 562 (by decide +kernel) rfl, TB_in 563 (by decide +kernel) rfl⟩, ⟨by decide +kernel, by decide⟩, by decide, rfl⟩
theorem mB_MX7_strikesAny : mB MX7_strikesAny := ⟨⟨TB_in 574 (by decide +kernel) rfl, cini_7⟩, cn_7.1, cn_7.2, rfl⟩
theorem mV_MX7_strikesAny : mV MX7_strikesAny := ⟨⟨TB_in 572 (by decide +kernel) rfl, TB_in 573 (by decide +kernel) rfl⟩, ⟨by decide +kernel, by decide⟩, by decide, rfl⟩
theorem mB_MX7_strikesPlace : mB MX7_strikesPlace := ⟨⟨TB_in 578 (by decide +kernel) rfl, cini_7⟩, cn_7.1, cn_7.2, rfl⟩
theorem mV_MX7_strikesPlace : mV MX7_strikesPlace := ⟨⟨TB_in 576 (by decide +kernel) rfl, TB_in 577 (by decide +kernel) rfl⟩, ⟨by decide +kernel, by decide⟩, by decide, rfl⟩
theorem mB_MX7_sweep : mB MX7_sweep := ⟨⟨TB_in 600 (by decide +kernel) rfl, cini_7⟩, cn_7.1, cn_7.2, rfl⟩
theorem mV_MX7_sweep : mV MX7_sweep := ⟨⟨TB_in 598 (by decide +kernel) rfl, TB_in 599 (by decide +kernel) rfl⟩, ⟨by decide +kernel, by decide⟩, by decide, rfl⟩
theorem mB_MX7_closeUp : mB MX7_closeUp := ⟨⟨TB_in 664 (by decide +kernel) rfl, cini_7⟩, cn_7.1, cn_7.2, rfl⟩
theorem mV_MX7_closeUp : mV MX7_closeUp := ⟨⟨TB_in 662 (by decide +kernel) rfl, TB_in 663 (by decide +kernel) rfl⟩, ⟨by decide +kernel, by decide⟩, by decide, rfl⟩
theorem mB_MX7_sweepAtMost : mB MX7_sweepAtMost := ⟨⟨TB_in 612 (by decide +kernel) rfl, cini_7⟩, cn_7.1, cn_7.2, rfl⟩
theorem mV_MX7_sweepAtMost : mV MX7_sweepAtMost := ⟨⟨TB_in 610 (by decide +kernel) rfl, TB_in 611 (by decide +kernel) rfl⟩, ⟨by decide +kernel, by decide⟩, by decide, rfl⟩
theorem mB_MX7_gapAt : mB MX7_gapAt := ⟨⟨TB_in 785 (by decide +kernel) rfl, cini_7⟩, cn_7.1, cn_7.2, rfl⟩
theorem mV_MX7_gapAt : mV MX7_gapAt := ⟨⟨TB_in 783 (by decide +kernel) rfl, TB_in 784 (by decide +kernel) rfl⟩, ⟨by decide +kernel, by decide⟩, by decide, rfl⟩
theorem mB_MX7_property : mB MX7_property := ⟨⟨TB_in 556 (by decide +kernel) rfl, cini_7⟩, cn_7.1, cn_7.2, rfl⟩
theorem mV_MX7_property : mV MX7_property := ⟨⟨TB_in 554 (by decide +kernel) rfl, TB_in 555 (by decide +kernel) rfl⟩, ⟨by decide +kernel, by decide⟩, by decide, rfl⟩
theorem mB_MX7_takeOut : mB MX7_takeOut := ⟨⟨TB_in 660 (by decide +kernel) rfl, cini_7⟩, cn_7.1, cn_7.2, rfl⟩
theorem mV_MX7_takeOut : mV MX7_takeOut := ⟨⟨TB_in 658 (by decide +kernel) rfl, TB_in 659 (by decide +kernel) rfl⟩, ⟨by decide +kernel, by decide⟩, by decide, rfl⟩
theorem mB_MX7_resize : mB MX7_resize := ⟨⟨TB_in 672 (by decide +kernel) rfl, cini_7⟩, cn_7.1, cn_7.2, rfl⟩
theorem mV_MX7_resize : mV MX7_resize := ⟨⟨TB_in 670 (by decide +kernel) rfl, TB_in 671 (by decide +kernel) rfl⟩, ⟨by decide +kernel, by decide⟩, by decide, rfl⟩
theorem mB_MX7_sweepTill : mB MX7_sweepTill := ⟨⟨TB_in 758 (by decide +kernel) rfl, cini_7⟩, cn_7.1, cn_7.2, rfl⟩
theorem mV_MX7_sweepTill : mV MX7_sweepTill := ⟨⟨TB_in 756 (by decide +kernel) rfl, TB_in 757 (by decide +kernel) rfl⟩, ⟨by decide +kernel, by decide⟩, by decide, rfl⟩
theorem mB_MX7_countLeft : mB MX7_countLeft := ⟨⟨TB_in 927 (by decide +kernel) rfl, cini_7⟩, cn_7.1, cn_7.2, rfl⟩
theorem mV_MX7_countLeft : mV MX7_countLeft := ⟨⟨TB_in 925 (by decide +kernel) rfl, TB_in 926 (by decide +kernel) rfl⟩, ⟨by decide +kernel, by decide⟩, by decide, rfl⟩
theorem mB_MX8_runEnd : mB MX8_runEnd := ⟨⟨TB_in 867 (by decide +kernel) rfl, cini_8⟩, cn_8.1, cn_8.2, rfl⟩
theorem mS_MX8_runEnd : mS MX8_runEnd := ⟨TB_in 866 (by decide +kernel) rfl, by decide +kernel⟩
theorem mB_MX8_tallyGaps : mB MX8_tallyGaps := ⟨⟨TB_in 795 (by decide +kernel) rfl, cini_8⟩, cn_8.1, cn_8.2, rfl⟩
theorem mS_MX8_tallyGaps : mS MX8_tallyGaps := ⟨TB_in 794 (by decide +kernel) rfl, by decide +kernel⟩
theorem mB_MX8_width : mB MX8_width := ⟨⟨TB_in 917 (by decide +kernel) rfl, cini_8⟩, cn_8.1, cn_8.2, rfl⟩
theorem mS_MX8_width : mS MX8_width := ⟨TB_in 916 (by decide +kernel) rfl, by decide +kernel⟩
theorem mB_MX8_mirrorLength : mB MX8_mirrorLength := ⟨⟨TB_in 953 (by decide +kernel) rfl, cini_8⟩, cn_8.1, cn_8.2, rfl⟩
theorem mS_MX8_mirrorLength : mS MX8_mirrorLength := ⟨TB_in 952 (by decide +kernel) rfl, by decide +kernel⟩
theorem mB_MX8_unlikeGaps : mB MX8_unlikeGaps := ⟨⟨TB_in 792 (by decide +kernel) rfl, cini_8⟩, cn_8.1, cn_8.2, rfl⟩
theorem mS_MX8_unlikeGaps : mS MX8_unlikeGaps := ⟨TB_in 791 (by decide +kernel) rfl, by decide +kernel⟩
theorem mB_MX8_placeOfGreatest : mB MX8_placeOfGreatest := ⟨⟨TB_in 807 (by decide +kernel) rfl, cini_8⟩, cn_8.1, cn_8.2, rfl⟩
theorem mS_MX8_placeOfGreatest : mS MX8_placeOfGreatest := ⟨TB_in 806 (by decide +kernel) rfl, by decide +kernel⟩
theorem mB_MX8_countGaps : mB MX8_countGaps := ⟨⟨TB_in 810 (by decide +kernel) rfl, cini_8⟩, cn_8.1, cn_8.2, rfl⟩
theorem mS_MX8_countGaps : mS MX8_countGaps := ⟨TB_in 809 (by decide +kernel) rfl, by decide +kernel⟩
theorem mB_MX8_recordPlace : mB MX8_recordPlace := ⟨⟨TB_in 821 (by decide +kernel) rfl, cini_8⟩, cn_8.1, cn_8.2, rfl⟩
theorem mS_MX8_recordPlace : mS MX8_recordPlace := ⟨TB_in 820 (by decide +kernel) rfl, by decide +kernel⟩
theorem mB_MX8_longestRunPlace : mB MX8_longestRunPlace := ⟨⟨TB_in 864 (by decide +kernel) rfl, cini_8⟩, cn_8.1, cn_8.2, rfl⟩
theorem mS_MX8_longestRunPlace : mS MX8_longestRunPlace := ⟨TB_in 863 (by decide +kernel) rfl, by decide +kernel⟩
theorem mB_MX8_struckFromRing : mB MX8_struckFromRing := ⟨⟨TB_in 896 (by decide +kernel) rfl, cini_8⟩, cn_8.1, cn_8.2, rfl⟩
theorem mS_MX8_struckFromRing : mS MX8_struckFromRing := ⟨TB_in 895 (by decide +kernel) rfl, by decide +kernel⟩
theorem mB_MX8_chainFrom : mB MX8_chainFrom := ⟨⟨TB_in 905 (by decide +kernel) rfl, cini_8⟩, cn_8.1, cn_8.2, rfl⟩
theorem mS_MX8_chainFrom : mS MX8_chainFrom := ⟨TB_in 904 (by decide +kernel) rfl, by decide +kernel⟩
theorem mB_MX8_closestPlace : mB MX8_closestPlace := ⟨⟨TB_in 914 (by decide +kernel) rfl, cini_8⟩, cn_8.1, cn_8.2, rfl⟩
theorem mS_MX8_closestPlace : mS MX8_closestPlace := ⟨TB_in 913 (by decide +kernel) rfl, by decide +kernel⟩
theorem mB_MX8_countPattern : mB MX8_countPattern := ⟨⟨TB_in 939 (by decide +kernel) rfl, cini_8⟩, cn_8.1, cn_8.2, rfl⟩
theorem mS_MX8_countPattern : mS MX8_countPattern := ⟨TB_in 938 (by decide +kernel) rfl, by decide +kernel⟩
theorem mB_MX8_longestMirror : mB MX8_longestMirror := ⟨⟨TB_in 946 (by decide +kernel) rfl, cini_8⟩, cn_8.1, cn_8.2, rfl⟩
theorem mS_MX8_longestMirror : mS MX8_longestMirror := ⟨TB_in 945 (by decide +kernel) rfl, by decide +kernel⟩
theorem mB_MX8_commonestGap : mB MX8_commonestGap := ⟨⟨TB_in 964 (by decide +kernel) rfl, cini_8⟩, cn_8.1, cn_8.2, rfl⟩
theorem mS_MX8_commonestGap : mS MX8_commonestGap := ⟨TB_in 963 (by decide +kernel) rfl, by decide +kernel⟩
theorem mB_MX9_clearCells : mB MX9_clearCells := ⟨⟨TB_in 798 (by decide +kernel) rfl, cini_9⟩, cn_9.1, cn_9.2, rfl⟩
theorem mS_MX9_clearCells : mS MX9_clearCells := ⟨TB_in 797 (by decide +kernel) rfl, by decide +kernel⟩
theorem mB_MX9_remainder : mB MX9_remainder := ⟨⟨TB_in 581 (by decide +kernel) rfl, cini_9⟩, cn_9.1, cn_9.2, rfl⟩
theorem mS_MX9_remainder : mS MX9_remainder := ⟨TB_in 580 (by decide +kernel) rfl, by decide +kernel⟩
theorem mB_MX9_at : mB MX9_at := ⟨⟨TB_in 447 (by decide +kernel) rfl, cini_9⟩, cn_9.1, cn_9.2, rfl⟩
theorem mS_MX9_at : mS MX9_at := ⟨TB_in 446 (by decide +kernel) rfl, by decide +kernel⟩
theorem mB_MX9_put : mB MX9_put := ⟨⟨TB_in 324 (by decide +kernel) rfl, cini_9⟩, cn_9.1, cn_9.2, rfl⟩
theorem mS_MX9_put : mS MX9_put := ⟨TB_in 323 (by decide +kernel) rfl, by decide +kernel⟩
theorem mB_MX9_init : mB MX9_init := ⟨⟨TB_in 87 (by decide +kernel) rfl, cini_9⟩, cn_9.1, cn_9.2, rfl⟩
theorem mC_MX9_init : mC MX9_init := ⟨TB_in 86 (by decide +kernel) rfl, ⟨by decide +kernel, by decide⟩, rfl, rfl⟩
theorem mB_MX9_status : mB MX9_status := ⟨⟨TB_in 309 (by decide +kernel) rfl, cini_9⟩, cn_9.1, cn_9.2, rfl⟩
theorem mV_MX9_status : mV MX9_status := ⟨⟨TB_in 307 (by decide +kernel) rfl, TB_in 308 (by decide +kernel) rfl⟩, ⟨by decide +kernel, by decide⟩, by decide, rfl⟩
theorem mB_MX9_feed : mB MX9_feed := ⟨⟨TB_in 313 (by decide +kernel) rfl, cini_9⟩, cn_9.1, cn_9.2, rfl⟩
theorem mV_MX9_feed : mV MX9_feed := ⟨⟨TB_in 311 (by decide +kernel) rfl, TB_in 312 (by decide +kernel) rfl⟩, ⟨by decide +kernel, by decide⟩, by decide, rfl⟩
theorem mB_MX9_load : mB MX9_load := ⟨⟨TB_in 328 (by decide +kernel) rfl, cini_9⟩, cn_9.1, cn_9.2, rfl⟩
theorem mV_MX9_load : mV MX9_load := ⟨⟨TB_in 326 (by decide +kernel) rfl, TB_in 327 (by decide +kernel) rfl⟩, ⟨by decide +kernel, by decide⟩, by decide, rfl⟩
theorem mB_MX9_fault : mB MX9_fault := ⟨⟨TB_in 542 (by decide +kernel) rfl, cini_9⟩, cn_9.1, cn_9.2, rfl⟩
theorem mV_MX9_fault : mV MX9_fault := ⟨⟨TB_in 540 (by decide +kernel) rfl, TB_in 541 (by decide +kernel) rfl⟩, ⟨by decide +kernel, by decide⟩, by decide, rfl⟩
theorem mB_MX9_many : mB MX9_many := ⟨⟨TB_in 546 (by decide +kernel) rfl, cini_9⟩, cn_9.1, cn_9.2, rfl⟩
theorem mV_MX9_many : mV MX9_many := ⟨⟨TB_in 544 (by decide +kernel) rfl, TB_in 545 (by decide +kernel) rfl⟩, ⟨by decide +kernel, by decide⟩, by decide, rfl⟩
theorem mB_MX9_sieve : mB MX9_sieve := ⟨⟨TB_in 551 (by decide +kernel) rfl, cini_9⟩, cn_9.1, cn_9.2, rfl⟩
theorem mV_MX9_sieve : mV MX9_sieve := ⟨⟨TB_in 549 (by decide +kernel) rfl, TB_in 550 (by decide +kernel) rfl⟩, ⟨by decide +kernel, by decide⟩, by decide, rfl⟩
theorem mB_MX9_round : mB MX9_round := ⟨⟨TB_in 585 (by decide +kernel) rfl, cini_9⟩, cn_9.1, cn_9.2, rfl⟩
theorem mV_MX9_round : mV MX9_round := ⟨⟨TB_in 583 (by decide +kernel) rfl, TB_in 584 (by decide +kernel) rfl⟩, ⟨by decide +kernel, by decide⟩, by decide, rfl⟩
theorem mB_MX9_all : mB MX9_all := ⟨⟨TB_in 608 (by decide +kernel) rfl, cini_9⟩, cn_9.1, cn_9.2, rfl⟩
theorem mV_MX9_all : mV MX9_all := ⟨⟨TB_in 606 (by decide +kernel) rfl, TB_in 607 (by decide +kernel) rfl⟩, ⟨by decide +kernel, by decide⟩, by decide, rfl⟩
theorem mB_MX9_told : mB MX9_told := ⟨⟨TB_in 617 (by decide +kernel) rfl, cini_9⟩, cn_9.1, cn_9.2, rfl⟩
theorem mV_MX9_told : mV MX9_told := ⟨⟨TB_in 615 (by decide +kernel) rfl, TB_in 616 (by decide +kernel) rfl⟩, ⟨by decide +kernel, by decide⟩, by decide, rfl⟩
theorem mB_MX9_strike : mB MX9_strike := ⟨⟨TB_in 640 (by decide +kernel) rfl, cini_9⟩, cn_9.1, cn_9.2, rfl⟩
theorem mV_MX9_strike : mV MX9_strike := ⟨⟨TB_in 638 (by decide +kernel) rfl, TB_in 639 (by decide +kernel) rfl⟩, ⟨by decide +kernel, by decide⟩, by decide, rfl⟩
theorem mB_MX9_longer : mB MX9_longer := ⟨⟨TB_in 668 (by decide +kernel) rfl, cini_9⟩, cn_9.1, cn_9.2, rfl⟩
theorem mV_MX9_longer : mV MX9_longer := ⟨⟨TB_in 666 (by decide +kernel) rfl, TB_in 667 (by decide +kernel) rfl⟩, ⟨by decide +kernel, by decide⟩, by decide, rfl⟩
theorem mB_MX9_make : mB MX9_make := ⟨⟨TB_in 677 (by decide +kernel) rfl, cini_9⟩, cn_9.1, cn_9.2, rfl⟩
theorem mV_MX9_make : mV MX9_make := ⟨⟨TB_in 675 (by decide +kernel) rfl, TB_in 676 (by decide +kernel) rfl⟩, ⟨by decide +kernel, by decide⟩, by decide, rfl⟩
theorem mB_MX9_drop : mB MX9_drop := ⟨⟨TB_in 687 (by decide +kernel) rfl, cini_9⟩, cn_9.1, cn_9.2, rfl⟩
theorem mV_MX9_drop : mV MX9_drop := ⟨⟨TB_in 685 (by decide +kernel) rfl, TB_in 686 (by decide +kernel) rfl⟩, ⟨by decide +kernel, by decide⟩, by decide, rfl⟩
theorem mB_MX9_undo : mB MX9_undo := ⟨⟨TB_in 695 (by decide +kernel) rfl, cini_9⟩, cn_9.1, cn_9.2, rfl⟩
theorem mV_MX9_undo : mV MX9_undo := ⟨⟨TB_in 693 (by decide +kernel) rfl, TB_in 694 (by decide +kernel) rfl⟩, ⟨by decide +kernel, by decide⟩, by decide, rfl⟩
theorem mB_MX9_number : mB MX9_number := ⟨⟨TB_in 707 (by decide +kernel) rfl, cini_9⟩, cn_9.1, cn_9.2, rfl⟩
theorem mV_MX9_number : mV MX9_number := ⟨⟨TB_in 705 (by decide +kernel) rfl, TB_in 706 (by decide +kernel) rfl⟩, ⟨by decide +kernel, by decide⟩, by decide, rfl⟩
theorem mB_MX9_rank : mB MX9_rank := ⟨⟨TB_in 712 (by decide +kernel) rfl, cini_9⟩, cn_9.1, cn_9.2, rfl⟩
theorem mV_MX9_rank : mV MX9_rank := ⟨⟨TB_in 710 (by decide +kernel) rfl, TB_in 711 (by decide +kernel) rfl⟩, ⟨by decide +kernel, by decide⟩, by decide, rfl⟩
theorem mB_MX9_fate : mB MX9_fate := ⟨⟨TB_in 716 (by decide +kernel) rfl, cini_9⟩, cn_9.1, cn_9.2, rfl⟩
theorem mV_MX9_fate : mV MX9_fate := ⟨⟨TB_in 714 (by decide +kernel) rfl, TB_in 715 (by decide +kernel) rfl⟩, ⟨by decide +kernel, by decide⟩, by decide, rfl⟩
theorem mB_MX9_back : mB MX9_back := ⟨⟨TB_in 728 (by decide +kernel) rfl, cini_9⟩, cn_9.1, cn_9.2, rfl⟩
theorem mV_MX9_back : mV MX9_back := ⟨⟨TB_in 726 (by decide +kernel) rfl, TB_in 727 (by decide +kernel) rfl⟩, ⟨by decide +kernel, by decide⟩, by decide, rfl⟩
theorem mB_MX9_ahead : mB MX9_ahead := ⟨⟨TB_in 738 (by decide +kernel) rfl, cini_9⟩, cn_9.1, cn_9.2, rfl⟩
theorem mV_MX9_ahead : mV MX9_ahead := ⟨⟨TB_in 736 (by decide +kernel) rfl, TB_in 737 (by decide +kernel) rfl⟩, ⟨by decide +kernel, by decide⟩, by decide, rfl⟩
theorem mB_MX9_would : mB MX9_would := ⟨⟨TB_in 745 (by decide +kernel) rfl, cini_9⟩, cn_9.1, cn_9.2, rfl⟩
theorem mV_MX9_would : mV MX9_would := ⟨⟨TB_in 743 (by decide +kernel) rfl, TB_in 744 (by decide +kernel) rfl⟩, ⟨by decide +kernel, by decide⟩, by decide, rfl⟩
theorem mB_MX9_till : mB MX9_till := ⟨⟨TB_in 754 (by decide +kernel) rfl, cini_9⟩, cn_9.1, cn_9.2, rfl⟩
theorem mV_MX9_till : mV MX9_till := ⟨⟨TB_in 752 (by decide +kernel) rfl, TB_in 753 (by decide +kernel) rfl⟩, ⟨by decide +kernel, by decide⟩, by decide, rfl⟩
theorem mB_MX9_origin : mB MX9_origin := ⟨⟨TB_in 762 (by decide +kernel) rfl, cini_9⟩, cn_9.1, cn_9.2, rfl⟩
theorem mV_MX9_origin : mV MX9_origin := ⟨⟨TB_in 760 (by decide +kernel) rfl, TB_in 761 (by decide +kernel) rfl⟩, ⟨by decide +kernel, by decide⟩, by decide, rfl⟩
theorem mB_MX9_gone : mB MX9_gone := ⟨⟨TB_in 769 (by decide +kernel) rfl, cini_9⟩, cn_9.1, cn_9.2, rfl⟩
theorem mV_MX9_gone : mV MX9_gone := ⟨⟨TB_in 767 (by decide +kernel) rfl, TB_in 768 (by decide +kernel) rfl⟩, ⟨by decide +kernel, by decide⟩, by decide, rfl⟩
theorem mB_MX9_upTo : mB MX9_upTo := ⟨⟨TB_in 776 (by decide +kernel) rfl, cini_9⟩, cn_9.1, cn_9.2, rfl⟩
theorem mV_MX9_upTo : mV MX9_upTo := ⟨⟨TB_in 774 (by decide +kernel) rfl, TB_in 775 (by decide +kernel) rfl⟩, ⟨by decide +kernel, by decide⟩, by decide, rfl⟩
theorem mB_MX9_gap : mB MX9_gap := ⟨⟨TB_in 781 (by decide +kernel) rfl, cini_9⟩, cn_9.1, cn_9.2, rfl⟩
theorem mV_MX9_gap : mV MX9_gap := ⟨⟨TB_in 779 (by decide +kernel) rfl, TB_in 780 (by decide +kernel) rfl⟩, ⟨by decide +kernel, by decide⟩, by decide, rfl⟩
theorem mB_MX9_gaps : mB MX9_gaps := ⟨⟨TB_in 789 (by decide +kernel) rfl, cini_9⟩, cn_9.1, cn_9.2, rfl⟩
theorem mV_MX9_gaps : mV MX9_gaps := ⟨⟨TB_in 787 (by decide +kernel) rfl, TB_in 788 (by decide +kernel) rfl⟩, ⟨by decide +kernel, by decide⟩, by decide, rfl⟩
theorem mB_MX9_gapsOf : mB MX9_gapsOf := ⟨⟨TB_in 814 (by decide +kernel) rfl, cini_9⟩, cn_9.1, cn_9.2, rfl⟩
theorem mV_MX9_gapsOf : mV MX9_gapsOf := ⟨⟨TB_in 812 (by decide +kernel) rfl, TB_in 813 (by decide +kernel) rfl⟩, ⟨by decide +kernel, by decide⟩, by decide, rfl⟩
theorem mB_MX9_record : mB MX9_record := ⟨⟨TB_in 818 (by decide +kernel) rfl, cini_9⟩, cn_9.1, cn_9.2, rfl⟩
theorem mV_MX9_record : mV MX9_record := ⟨⟨TB_in 816 (by decide +kernel) rfl, TB_in 817 (by decide +kernel) rfl⟩, ⟨by decide +kernel, by decide⟩, by decide, rfl⟩
theorem mB_MX9_pairs : mB MX9_pairs := ⟨⟨TB_in 825 (by decide +kernel) rfl, cini_9⟩, cn_9.1, cn_9.2, rfl⟩
theorem mV_MX9_pairs : mV MX9_pairs := ⟨⟨TB_in 823 (by decide +kernel) rfl, TB_in 824 (by decide +kernel) rfl⟩, ⟨by decide +kernel, by decide⟩, by decide, rfl⟩
theorem mB_MX9_triples : mB MX9_triples := ⟨⟨TB_in 834 (by decide +kernel) rfl, cini_9⟩, cn_9.1, cn_9.2, rfl⟩
theorem mV_MX9_triples : mV MX9_triples := ⟨⟨TB_in 832 (by decide +kernel) rfl, TB_in 833 (by decide +kernel) rfl⟩, ⟨by decide +kernel, by decide⟩, by decide, rfl⟩
theorem mB_MX9_sums : mB MX9_sums := ⟨⟨TB_in 841 (by decide +kernel) rfl, cini_9⟩, cn_9.1, cn_9.2, rfl⟩
theorem mV_MX9_sums : mV MX9_sums := ⟨⟨TB_in 839 (by decide +kernel) rfl, TB_in 840 (by decide +kernel) rfl⟩, ⟨by decide +kernel, by decide⟩, by decide, rfl⟩
theorem mB_MX9_misses : mB MX9_misses := ⟨⟨TB_in 848 (by decide +kernel) rfl, cini_9⟩, cn_9.1, cn_9.2, rfl⟩
theorem mV_MX9_misses : mV MX9_misses := ⟨⟨TB_in 846 (by decide +kernel) rfl, TB_in 847 (by decide +kernel) rfl⟩, ⟨by decide +kernel, by decide⟩, by decide, rfl⟩
theorem mB_MX9_run : mB MX9_run := ⟨⟨TB_in 861 (by decide +kernel) rfl, cini_9⟩, cn_9.1, cn_9.2, rfl⟩
theorem mV_MX9_run : mV MX9_run := ⟨⟨TB_in 859 (by decide +kernel) rfl, TB_in 860 (by decide +kernel) rfl⟩, ⟨by decide +kernel, by decide⟩, by decide, rfl⟩
theorem mB_MX9_progression : mB MX9_progression := ⟨⟨TB_in 871 (by decide +kernel) rfl, cini_9⟩, cn_9.1, cn_9.2, rfl⟩
theorem mV_MX9_progression : mV MX9_progression := ⟨⟨TB_in 869 (by decide +kernel) rfl, TB_in 870 (by decide +kernel) rfl⟩, ⟨by decide +kernel, by decide⟩, by decide, rfl⟩
theorem mB_MX9_rests : mB MX9_rests := ⟨⟨TB_in 882 (by decide +kernel) rfl, cini_9⟩, cn_9.1, cn_9.2, rfl⟩
theorem mV_MX9_rests : mV MX9_rests := ⟨⟨TB_in 880 (by decide +kernel) rfl, TB_in 881 (by decide +kernel) rfl⟩, ⟨by decide +kernel, by decide⟩, by decide, rfl⟩
theorem mB_MX9_ring : mB MX9_ring := ⟨⟨TB_in 893 (by decide +kernel) rfl, cini_9⟩, cn_9.1, cn_9.2, rfl⟩
theorem mV_MX9_ring : mV MX9_ring := ⟨⟨TB_in 891 (by decide +kernel) rfl, TB_in 892 (by decide +kernel) rfl⟩, ⟨by decide +kernel, by decide⟩, by decide, rfl⟩
theorem mB_MX9_chain : mB MX9_chain := ⟨⟨TB_in 902 (by decide +kernel) rfl, cini_9⟩, cn_9.1, cn_9.2, rfl⟩
theorem mV_MX9_chain : mV MX9_chain := ⟨⟨TB_in 900 (by decide +kernel) rfl, TB_in 901 (by decide +kernel) rfl⟩, ⟨by decide +kernel, by decide⟩, by decide, rfl⟩
theorem mB_MX9_spread : mB MX9_spread := ⟨⟨TB_in 911 (by decide +kernel) rfl, cini_9⟩, cn_9.1, cn_9.2, rfl⟩
theorem mV_MX9_spread : mV MX9_spread := ⟨⟨TB_in 909 (by decide +kernel) rfl, TB_in 910 (by decide +kernel) rfl⟩, ⟨by decide +kernel, by decide⟩, by decide, rfl⟩
theorem mB_MX9_sketch : mB MX9_sketch := ⟨⟨TB_in 922 (by decide +kernel) rfl, cini_9⟩, cn_9.1, cn_9.2, rfl⟩
theorem mV_MX9_sketch : mV MX9_sketch := ⟨⟨TB_in 920 (by decide +kernel) rfl, TB_in 921 (by decide +kernel) rfl⟩, ⟨by decide +kernel, by decide⟩, by decide, rfl⟩
theorem mB_MX9_balance : mB MX9_balance := ⟨⟨TB_in 931 (by decide +kernel) rfl, cini_9⟩, cn_9.1, cn_9.2, rfl⟩
theorem mV_MX9_balance : mV MX9_balance := ⟨⟨TB_in 929 (by decide +kernel) rfl, TB_in 930 (by decide +kernel) rfl⟩, ⟨by decide +kernel, by decide⟩, by decide, rfl⟩
theorem mB_MX9_pattern : mB MX9_pattern := ⟨⟨TB_in 936 (by decide +kernel) rfl, cini_9⟩, cn_9.1, cn_9.2, rfl⟩
theorem mV_MX9_pattern : mV MX9_pattern := ⟨⟨TB_in 934 (by decide +kernel) rfl, TB_in 935 (by decide +kernel) rfl⟩, ⟨by decide +kernel, by decide⟩, by decide, rfl⟩
theorem mB_MX9_mirror : mB MX9_mirror := ⟨⟨TB_in 943 (by decide +kernel) rfl, cini_9⟩, cn_9.1, cn_9.2, rfl⟩
theorem mV_MX9_mirror : mV MX9_mirror := ⟨⟨TB_in 941 (by decide +kernel) rfl, TB_in 942 (by decide +kernel) rfl⟩, ⟨by decide +kernel, by decide⟩, by decide, rfl⟩
theorem mB_MX9_half : mB MX9_half := ⟨⟨TB_in 957 (by decide +kernel) rfl, cini_9⟩, cn_9.1, cn_9.2, rfl⟩
theorem mV_MX9_half : mV MX9_half := ⟨⟨TB_in 955 (by decide +kernel) rfl, TB_in 956 (by decide +kernel) rfl⟩, ⟨by decide +kernel, by decide⟩, by decide, rfl⟩
theorem mB_MX9_usual : mB MX9_usual := ⟨⟨TB_in 961 (by decide +kernel) rfl, cini_9⟩, cn_9.1, cn_9.2, rfl⟩
theorem mV_MX9_usual : mV MX9_usual := ⟨⟨TB_in 959 (by decide +kernel) rfl, TB_in 960 (by decide +kernel) rfl⟩, ⟨by decide +kernel, by decide⟩, by decide, rfl⟩
theorem mB_MX9_both : mB MX9_both := ⟨⟨TB_in 968 (by decide +kernel) rfl, cini_9⟩, cn_9.1, cn_9.2, rfl⟩
theorem mV_MX9_both : mV MX9_both := ⟨⟨TB_in 966 (by decide +kernel) rfl, TB_in 967 (by decide +kernel) rfl⟩, ⟨by decide +kernel, by decide⟩, by decide, rfl⟩
theorem mB_MX9_lead : mB MX9_lead := ⟨⟨TB_in 984 (by decide +kernel) rfl, cini_9⟩, cn_9.1, cn_9.2, rfl⟩
theorem mV_MX9_lead : mV MX9_lead := ⟨⟨TB_in 982 (by decide +kernel) rfl, TB_in 983 (by decide +kernel) rfl⟩, ⟨by decide +kernel, by decide⟩, by decide, rfl⟩
theorem mB_MX9_alike : mB MX9_alike := ⟨⟨TB_in 998 (by decide +kernel) rfl, cini_9⟩, cn_9.1, cn_9.2, rfl⟩
theorem mV_MX9_alike : mV MX9_alike := ⟨⟨TB_in 996 (by decide +kernel) rfl, TB_in 997 (by decide +kernel) rfl⟩, ⟨by decide +kernel, by decide⟩, by decide, rfl⟩
theorem mB_MX9_through : mB MX9_through := ⟨⟨TB_in 1006 (by decide +kernel) rfl, cini_9⟩, cn_9.1, cn_9.2, rfl⟩
theorem mV_MX9_through : mV MX9_through := ⟨⟨TB_in 1004 (by decide +kernel) rfl, TB_in 1005 (by decide +kernel) rfl⟩, ⟨by decide +kernel, by decide⟩, by decide, rfl⟩
theorem mB_MX9_list : mB MX9_list := ⟨⟨TB_in 1013 (by decide +kernel) rfl, cini_9⟩, cn_9.1, cn_9.2, rfl⟩
theorem mV_MX9_list : mV MX9_list := ⟨⟨TB_in 1011 (by decide +kernel) rfl, TB_in 1012 (by decide +kernel) rfl⟩, ⟨by decide +kernel, by decide⟩, by decide, rfl⟩
theorem mB_MX9_fits : mB MX9_fits := ⟨⟨TB_in 1024 (by decide +kernel) rfl, cini_9⟩, cn_9.1, cn_9.2, rfl⟩
theorem mV_MX9_fits : mV MX9_fits := ⟨⟨TB_in 1022 (by decide +kernel) rfl, TB_in 1023 (by decide +kernel) rfl⟩, ⟨by decide +kernel, by decide⟩, by decide, rfl⟩
theorem mB_MX9_guess : mB MX9_guess := ⟨⟨TB_in 1044 (by decide +kernel) rfl, cini_9⟩, cn_9.1, cn_9.2, rfl⟩
theorem mV_MX9_guess : mV MX9_guess := ⟨⟨TB_in 1042 (by decide +kernel) rfl, TB_in 1043 (by decide +kernel) rfl⟩, ⟨by decide +kernel, by decide⟩, by decide, rfl⟩
theorem mB_MX9_meets : mB MX9_meets := ⟨⟨TB_in 1048 (by decide +kernel) rfl, cini_9⟩, cn_9.1, cn_9.2, rfl⟩
theorem mV_MX9_meets : mV MX9_meets := ⟨⟨TB_in 1046 (by decide +kernel) rfl, TB_in 1047 (by decide +kernel) rfl⟩, ⟨by decide +kernel, by decide⟩, by decide, rfl⟩
theorem mB_MX9_apart : mB MX9_apart := ⟨⟨TB_in 1055 (by decide +kernel) rfl, cini_9⟩, cn_9.1, cn_9.2, rfl⟩
theorem mV_MX9_apart : mV MX9_apart := ⟨⟨TB_in 1053 (by decide +kernel) rfl, TB_in 1054 (by decide +kernel) rfl⟩, ⟨by decide +kernel, by decide⟩, by decide, rfl⟩
theorem mB_MX9_print : mB MX9_print := ⟨⟨TB_in 1065 (by decide +kernel) rfl, cini_9⟩, cn_9.1, cn_9.2, rfl⟩
theorem mV_MX9_print : mV MX9_print := ⟨⟨TB_in 1063 (by decide +kernel) rfl, TB_in 1064 (by decide +kernel) rfl⟩, ⟨by decide +kernel, by decide⟩, by decide, rfl⟩
theorem mB_MX9_out : mB MX9_out := ⟨⟨TB_in 1085 (by decide +kernel) rfl, cini_9⟩, cn_9.1, cn_9.2, rfl⟩
theorem mV_MX9_out : mV MX9_out := ⟨⟨TB_in 1083 (by decide +kernel) rfl, TB_in 1084 (by decide +kernel) rfl⟩, ⟨by decide +kernel, by decide⟩, by decide, rfl⟩
theorem mB_MX9_copyCells : mB MX9_copyCells := ⟨⟨TB_in 523 (by decide +kernel) rfl, cini_9⟩, cn_9.1, cn_9.2, rfl⟩
theorem mS_MX9_copyCells : mS MX9_copyCells := ⟨TB_in 522 (by decide +kernel) rfl, by decide +kernel⟩
theorem mB_MX9_within : mB MX9_within := ⟨⟨TB_in 417 (by decide +kernel) rfl, cini_9⟩, cn_9.1, cn_9.2, rfl⟩
theorem mS_MX9_within : mS MX9_within := ⟨TB_in 416 (by decide +kernel) rfl, by decide +kernel⟩
theorem mB_MX9_quotient : mB MX9_quotient := ⟨⟨TB_in 802 (by decide +kernel) rfl, cini_9⟩, cn_9.1, cn_9.2, rfl⟩
theorem mS_MX9_quotient : mS MX9_quotient := ⟨TB_in 801 (by decide +kernel) rfl, by decide +kernel⟩
theorem mB_MX9_fail : mB MX9_fail := ⟨⟨TB_in 332 (by decide +kernel) rfl, cini_9⟩, cn_9.1, cn_9.2, rfl⟩
theorem mV_MX9_fail : mV MX9_fail := ⟨⟨TB_in 331 (by decide +kernel) rfl, TB_in 0 (by decide +kernel) rfl⟩, ⟨by decide +kernel, by decide⟩, by decide, rfl⟩
theorem mB_MX9_succeed : mB MX9_succeed := ⟨⟨TB_in 537 (by decide +kernel) rfl, cini_9⟩, cn_9.1, cn_9.2, rfl⟩
theorem mV_MX9_succeed : mV MX9_succeed := ⟨⟨TB_in 536 (by decide +kernel) rfl, TB_in 1 (by decide +kernel) rfl⟩, ⟨by decide +kernel, by decide⟩, by decide, rfl⟩
theorem mB_MX9_answer : mB MX9_answer := ⟨⟨TB_in 636 (by decide +kernel) rfl, cini_9⟩, cn_9.1, cn_9.2, rfl⟩
theorem mV_MX9_answer : mV MX9_answer := ⟨⟨TB_in 635 (by decide +kernel) rfl, TB_in 2 (by decide +kernel) rfl⟩, ⟨by decide +kernel, by decide⟩, by decide, rfl⟩
theorem mB_MX9_finishTrial : mB MX9_finishTrial := ⟨⟨TB_in 749 (by decide +kernel) rfl, cini_9⟩, cn_9.1, cn_9.2, rfl⟩
theorem mV_MX9_finishTrial : mV MX9_finishTrial := ⟨⟨TB_in 748 (by decide +kernel) rfl, TB_in 3 (by decide +kernel) rfl⟩, ⟨by decide +kernel, by decide⟩, by decide, rfl⟩
theorem mB_MX10_isIn : mB MX10_isIn := ⟨⟨TB_in 1222 (by decide +kernel) rfl, cini_10⟩, cn_10.1, cn_10.2, rfl⟩
theorem mS_MX10_isIn : mS MX10_isIn := ⟨TB_in 1221 (by decide +kernel) rfl, by decide +kernel⟩
theorem mB_MX10_of : mB MX10_of := ⟨⟨TB_in 1247 (by decide +kernel) rfl, cini_10⟩, cn_10.1, cn_10.2, rfl⟩
theorem mV_MX10_of : mV MX10_of := ⟨⟨TB_in 1246 (by decide +kernel) rfl, TB_in 8 (by decide +kernel) rfl⟩, ⟨by decide +kernel, by decide⟩, by decide, rfl⟩
theorem mB_MX10_indexOf : mB MX10_indexOf := ⟨⟨TB_in 1304 (by decide +kernel) rfl, cini_10⟩, cn_10.1, cn_10.2, rfl⟩
theorem mV_MX10_indexOf : mV MX10_indexOf := ⟨⟨TB_in 1303 (by decide +kernel) rfl, TB_in 19 (by decide +kernel) rfl⟩, ⟨by decide +kernel, by decide⟩, by decide, rfl⟩
theorem mB_MX10_goneAt : mB MX10_goneAt := ⟨⟨TB_in 1251 (by decide +kernel) rfl, cini_10⟩, cn_10.1, cn_10.2, rfl⟩
theorem mV_MX10_goneAt : mV MX10_goneAt := ⟨⟨TB_in 1250 (by decide +kernel) rfl, TB_in 9 (by decide +kernel) rfl⟩, ⟨by decide +kernel, by decide⟩, by decide, rfl⟩
theorem mB_MX10_lays : mB MX10_lays := ⟨⟨TB_in 1243 (by decide +kernel) rfl, cini_10⟩, cn_10.1, cn_10.2, rfl⟩
theorem mV_MX10_lays : mV MX10_lays := ⟨⟨TB_in 1242 (by decide +kernel) rfl, TB_in 7 (by decide +kernel) rfl⟩, ⟨by decide +kernel, by decide⟩, by decide, rfl⟩
theorem mB_MX10_numberAt : mB MX10_numberAt := ⟨⟨TB_in 1267 (by decide +kernel) rfl, cini_10⟩, cn_10.1, cn_10.2, rfl⟩
theorem mV_MX10_numberAt : mV MX10_numberAt := ⟨⟨TB_in 1266 (by decide +kernel) rfl, TB_in 13 (by decide +kernel) rfl⟩, ⟨by decide +kernel, by decide⟩, by decide, rfl⟩
theorem mB_MX10_at : mB MX10_at := ⟨⟨TB_in 1263 (by decide +kernel) rfl, cini_10⟩, cn_10.1, cn_10.2, rfl⟩
theorem mV_MX10_at : mV MX10_at := ⟨⟨TB_in 1262 (by decide +kernel) rfl, TB_in 12 (by decide +kernel) rfl⟩, ⟨by decide +kernel, by decide⟩, by decide, rfl⟩
theorem mB_MX10_laysNow : mB MX10_laysNow := ⟨⟨TB_in 1239 (by decide +kernel) rfl, cini_10⟩, cn_10.1, cn_10.2, rfl⟩
theorem mV_MX10_laysNow : mV MX10_laysNow := ⟨⟨TB_in 1238 (by decide +kernel) rfl, TB_in 6 (by decide +kernel) rfl⟩, ⟨by decide +kernel, by decide⟩, by decide, rfl⟩
theorem mB_MX10_gapOf : mB MX10_gapOf := ⟨⟨TB_in 1259 (by decide +kernel) rfl, cini_10⟩, cn_10.1, cn_10.2, rfl⟩
theorem mV_MX10_gapOf : mV MX10_gapOf := ⟨⟨TB_in 1258 (by decide +kernel) rfl, TB_in 11 (by decide +kernel) rfl⟩, ⟨by decide +kernel, by decide⟩, by decide, rfl⟩
theorem mB_MX10_strikes : mB MX10_strikes := ⟨⟨TB_in 1271 (by decide +kernel) rfl, cini_10⟩, cn_10.1, cn_10.2, rfl⟩
theorem mV_MX10_strikes : mV MX10_strikes := ⟨⟨TB_in 1270 (by decide +kernel) rfl, TB_in 14 (by decide +kernel) rfl⟩, ⟨by decide +kernel, by decide⟩, by decide, rfl⟩
theorem mB_MX10_nextGap : mB MX10_nextGap := ⟨⟨TB_in 1255 (by decide +kernel) rfl, cini_10⟩, cn_10.1, cn_10.2, rfl⟩
theorem mV_MX10_nextGap : mV MX10_nextGap := ⟨⟨TB_in 1254 (by decide +kernel) rfl, TB_in 10 (by decide +kernel) rfl⟩, ⟨by decide +kernel, by decide⟩, by decide, rfl⟩
theorem mB_MX10_rounds : mB MX10_rounds := ⟨⟨TB_in 1284 (by decide +kernel) rfl, cini_10⟩, cn_10.1, cn_10.2, rfl⟩
theorem mV_MX10_rounds : mV MX10_rounds := ⟨⟨TB_in 1283 (by decide +kernel) rfl, TB_in 16 (by decide +kernel) rfl⟩, ⟨by decide +kernel, by decide⟩, by decide, rfl⟩
theorem mB_MX10_is : mB MX10_is := ⟨⟨TB_in 1226 (by decide +kernel) rfl, cini_10⟩, cn_10.1, cn_10.2, rfl⟩
theorem mV_MX10_is : mV MX10_is := ⟨⟨TB_in 1225 (by decide +kernel) rfl, TB_in 4 (by decide +kernel) rfl⟩, ⟨by decide +kernel, by decide⟩, by decide, rfl⟩
theorem mB_MX10_isSieve : mB MX10_isSieve := ⟨⟨TB_in 1235 (by decide +kernel) rfl, cini_10⟩, cn_10.1, cn_10.2, rfl⟩
theorem mV_MX10_isSieve : mV MX10_isSieve := ⟨⟨TB_in 1234 (by decide +kernel) rfl, TB_in 5 (by decide +kernel) rfl⟩, ⟨by decide +kernel, by decide⟩, by decide, rfl⟩
theorem mB_MX10_remembers : mB MX10_remembers := ⟨⟨TB_in 1279 (by decide +kernel) rfl, cini_10⟩, cn_10.1, cn_10.2, rfl⟩
theorem mV_MX10_remembers : mV MX10_remembers := ⟨⟨TB_in 1278 (by decide +kernel) rfl, TB_in 15 (by decide +kernel) rfl⟩, ⟨by decide +kernel, by decide⟩, by decide, rfl⟩
theorem mB_MX10_roundsAll : mB MX10_roundsAll := ⟨⟨TB_in 1292 (by decide +kernel) rfl, cini_10⟩, cn_10.1, cn_10.2, rfl⟩
theorem mV_MX10_roundsAll : mV MX10_roundsAll := ⟨⟨TB_in 1291 (by decide +kernel) rfl, TB_in 17 (by decide +kernel) rfl⟩, ⟨by decide +kernel, by decide⟩, by decide, rfl⟩
theorem mB_MX10_isThere : mB MX10_isThere := ⟨⟨TB_in 1300 (by decide +kernel) rfl, cini_10⟩, cn_10.1, cn_10.2, rfl⟩
theorem mV_MX10_isThere : mV MX10_isThere := ⟨⟨TB_in 1299 (by decide +kernel) rfl, TB_in 18 (by decide +kernel) rfl⟩, ⟨by decide +kernel, by decide⟩, by decide, rfl⟩
theorem mB_MX10_refuse : mB MX10_refuse := ⟨⟨TB_in 1308 (by decide +kernel) rfl, cini_10⟩, cn_10.1, cn_10.2, rfl⟩
theorem mV_MX10_refuse : mV MX10_refuse := ⟨⟨TB_in 1307 (by decide +kernel) rfl, TB_in 20 (by decide +kernel) rfl⟩, ⟨by decide +kernel, by decide⟩, by decide, rfl⟩
theorem mB_MX10_anew : mB MX10_anew := ⟨⟨TB_in 1317 (by decide +kernel) rfl, cini_10⟩, cn_10.1, cn_10.2, rfl⟩
theorem mV_MX10_anew : mV MX10_anew := ⟨⟨TB_in 1316 (by decide +kernel) rfl, TB_in 21 (by decide +kernel) rfl⟩, ⟨by decide +kernel, by decide⟩, by decide, rfl⟩
theorem mB_MX10_when : mB MX10_when := ⟨⟨TB_in 1348 (by decide +kernel) rfl, cini_10⟩, cn_10.1, cn_10.2, rfl⟩
theorem mV_MX10_when : mV MX10_when := ⟨⟨TB_in 1347 (by decide +kernel) rfl, TB_in 24 (by decide +kernel) rfl⟩, ⟨by decide +kernel, by decide⟩, by decide, rfl⟩
theorem mB_MX10_isRound : mB MX10_isRound := ⟨⟨TB_in 1340 (by decide +kernel) rfl, cini_10⟩, cn_10.1, cn_10.2, rfl⟩
theorem mV_MX10_isRound : mV MX10_isRound := ⟨⟨TB_in 1339 (by decide +kernel) rfl, TB_in 22 (by decide +kernel) rfl⟩, ⟨by decide +kernel, by decide⟩, by decide, rfl⟩
theorem mB_MX10_struckBy : mB MX10_struckBy := ⟨⟨TB_in 1344 (by decide +kernel) rfl, cini_10⟩, cn_10.1, cn_10.2, rfl⟩
theorem mV_MX10_struckBy : mV MX10_struckBy := ⟨⟨TB_in 1343 (by decide +kernel) rfl, TB_in 23 (by decide +kernel) rfl⟩, ⟨by decide +kernel, by decide⟩, by decide, rfl⟩
theorem mB_MX10_whyPlace : mB MX10_whyPlace := ⟨⟨TB_in 1356 (by decide +kernel) rfl, cini_10⟩, cn_10.1, cn_10.2, rfl⟩
theorem mV_MX10_whyPlace : mV MX10_whyPlace := ⟨⟨TB_in 1355 (by decide +kernel) rfl, TB_in 25 (by decide +kernel) rfl⟩, ⟨by decide +kernel, by decide⟩, by decide, rfl⟩
theorem mB_MX10_placeOf : mB MX10_placeOf := ⟨⟨TB_in 1364 (by decide +kernel) rfl, cini_10⟩, cn_10.1, cn_10.2, rfl⟩
theorem mV_MX10_placeOf : mV MX10_placeOf := ⟨⟨TB_in 1363 (by decide +kernel) rfl, TB_in 26 (by decide +kernel) rfl⟩, ⟨by decide +kernel, by decide⟩, by decide, rfl⟩
theorem mB_MX10_roundAt : mB MX10_roundAt := ⟨⟨TB_in 1372 (by decide +kernel) rfl, cini_10⟩, cn_10.1, cn_10.2, rfl⟩
theorem mV_MX10_roundAt : mV MX10_roundAt := ⟨⟨TB_in 1371 (by decide +kernel) rfl, TB_in 27 (by decide +kernel) rfl⟩, ⟨by decide +kernel, by decide⟩, by decide, rfl⟩
theorem mB_MX10_triesAside : mB MX10_triesAside := ⟨⟨TB_in 1388 (by decide +kernel) rfl, cini_10⟩, cn_10.1, cn_10.2, rfl⟩
theorem mV_MX10_triesAside : mV MX10_triesAside := ⟨⟨TB_in 1387 (by decide +kernel) rfl, TB_in 28 (by decide +kernel) rfl⟩, ⟨by decide +kernel, by decide⟩, by decide, rfl⟩
theorem mB_MX10_isBetween : mB MX10_isBetween := ⟨⟨TB_in 1400 (by decide +kernel) rfl, cini_10⟩, cn_10.1, cn_10.2, rfl⟩
theorem mV_MX10_isBetween : mV MX10_isBetween := ⟨⟨TB_in 1399 (by decide +kernel) rfl, TB_in 29 (by decide +kernel) rfl⟩, ⟨by decide +kernel, by decide⟩, by decide, rfl⟩
theorem mB_MX10_handUpTo : mB MX10_handUpTo := ⟨⟨TB_in 1412 (by decide +kernel) rfl, cini_10⟩, cn_10.1, cn_10.2, rfl⟩
theorem mV_MX10_handUpTo : mV MX10_handUpTo := ⟨⟨TB_in 1411 (by decide +kernel) rfl, TB_in 30 (by decide +kernel) rfl⟩, ⟨by decide +kernel, by decide⟩, by decide, rfl⟩
theorem mB_MX10_gapAt : mB MX10_gapAt := ⟨⟨TB_in 1420 (by decide +kernel) rfl, cini_10⟩, cn_10.1, cn_10.2, rfl⟩
theorem mV_MX10_gapAt : mV MX10_gapAt := ⟨⟨TB_in 1419 (by decide +kernel) rfl, TB_in 31 (by decide +kernel) rfl⟩, ⟨by decide +kernel, by decide⟩, by decide, rfl⟩
theorem mB_MX10_gapsBy : mB MX10_gapsBy := ⟨⟨TB_in 1428 (by decide +kernel) rfl, cini_10⟩, cn_10.1, cn_10.2, rfl⟩
theorem mV_MX10_gapsBy : mV MX10_gapsBy := ⟨⟨TB_in 1427 (by decide +kernel) rfl, TB_in 32 (by decide +kernel) rfl⟩, ⟨by decide +kernel, by decide⟩, by decide, rfl⟩
theorem mB_MX10_unlikeGaps : mB MX10_unlikeGaps := ⟨⟨TB_in 1432 (by decide +kernel) rfl, cini_10⟩, cn_10.1, cn_10.2, rfl⟩
theorem mV_MX10_unlikeGaps : mV MX10_unlikeGaps := ⟨⟨TB_in 1431 (by decide +kernel) rfl, TB_in 33 (by decide +kernel) rfl⟩, ⟨by decide +kernel, by decide⟩, by decide, rfl⟩
theorem mB_MX10_isMirror : mB MX10_isMirror := ⟨⟨TB_in 1456 (by decide +kernel) rfl, cini_10⟩, cn_10.1, cn_10.2, rfl⟩
theorem mV_MX10_isMirror : mV MX10_isMirror := ⟨⟨TB_in 1455 (by decide +kernel) rfl, TB_in 34 (by decide +kernel) rfl⟩, ⟨by decide +kernel, by decide⟩, by decide, rfl⟩
theorem mB_MX10_isBeyond : mB MX10_isBeyond := ⟨⟨TB_in 1464 (by decide +kernel) rfl, cini_10⟩, cn_10.1, cn_10.2, rfl⟩
theorem mV_MX10_isBeyond : mV MX10_isBeyond := ⟨⟨TB_in 1463 (by decide +kernel) rfl, TB_in 35 (by decide +kernel) rfl⟩, ⟨by decide +kernel, by decide⟩, by decide, rfl⟩
theorem mB_MX10_waysTo : mB MX10_waysTo := ⟨⟨TB_in 1477 (by decide +kernel) rfl, cini_10⟩, cn_10.1, cn_10.2, rfl⟩
theorem mV_MX10_waysTo : mV MX10_waysTo := ⟨⟨TB_in 1476 (by decide +kernel) rfl, TB_in 36 (by decide +kernel) rfl⟩, ⟨by decide +kernel, by decide⟩, by decide, rfl⟩
theorem mB_MX10_runFrom : mB MX10_runFrom := ⟨⟨TB_in 1489 (by decide +kernel) rfl, cini_10⟩, cn_10.1, cn_10.2, rfl⟩
theorem mV_MX10_runFrom : mV MX10_runFrom := ⟨⟨TB_in 1488 (by decide +kernel) rfl, TB_in 37 (by decide +kernel) rfl⟩, ⟨by decide +kernel, by decide⟩, by decide, rfl⟩
theorem mB_MX10_stepsFrom : mB MX10_stepsFrom := ⟨⟨TB_in 1497 (by decide +kernel) rfl, cini_10⟩, cn_10.1, cn_10.2, rfl⟩
theorem mV_MX10_stepsFrom : mV MX10_stepsFrom := ⟨⟨TB_in 1496 (by decide +kernel) rfl, TB_in 38 (by decide +kernel) rfl⟩, ⟨by decide +kernel, by decide⟩, by decide, rfl⟩
theorem mB_MX10_restMany : mB MX10_restMany := ⟨⟨TB_in 1506 (by decide +kernel) rfl, cini_10⟩, cn_10.1, cn_10.2, rfl⟩
theorem mV_MX10_restMany : mV MX10_restMany := ⟨⟨TB_in 1505 (by decide +kernel) rfl, TB_in 39 (by decide +kernel) rfl⟩, ⟨by decide +kernel, by decide⟩, by decide, rfl⟩
theorem mB_MX10_whyTwo : mB MX10_whyTwo := ⟨⟨TB_in 1538 (by decide +kernel) rfl, cini_10⟩, cn_10.1, cn_10.2, rfl⟩
theorem mV_MX10_whyTwo : mV MX10_whyTwo := ⟨⟨TB_in 1537 (by decide +kernel) rfl, TB_in 40 (by decide +kernel) rfl⟩, ⟨by decide +kernel, by decide⟩, by decide, rfl⟩
theorem mB_MX10_inBoth : mB MX10_inBoth := ⟨⟨TB_in 1542 (by decide +kernel) rfl, cini_10⟩, cn_10.1, cn_10.2, rfl⟩
theorem mV_MX10_inBoth : mV MX10_inBoth := ⟨⟨TB_in 1541 (by decide +kernel) rfl, TB_in 41 (by decide +kernel) rfl⟩, ⟨by decide +kernel, by decide⟩, by decide, rfl⟩
theorem mB_MX10_manyOf : mB MX10_manyOf := ⟨⟨TB_in 1546 (by decide +kernel) rfl, cini_10⟩, cn_10.1, cn_10.2, rfl⟩
theorem mV_MX10_manyOf : mV MX10_manyOf := ⟨⟨TB_in 1545 (by decide +kernel) rfl, TB_in 42 (by decide +kernel) rfl⟩, ⟨by decide +kernel, by decide⟩, by decide, rfl⟩
theorem mB_MX10_leastAlone : mB MX10_leastAlone := ⟨⟨TB_in 1550 (by decide +kernel) rfl, cini_10⟩, cn_10.1, cn_10.2, rfl⟩
theorem mV_MX10_leastAlone : mV MX10_leastAlone := ⟨⟨TB_in 1549 (by decide +kernel) rfl, TB_in 43 (by decide +kernel) rfl⟩, ⟨by decide +kernel, by decide⟩, by decide, rfl⟩
theorem mB_MX10_lastOf : mB MX10_lastOf := ⟨⟨TB_in 1559 (by decide +kernel) rfl, cini_10⟩, cn_10.1, cn_10.2, rfl⟩
theorem mV_MX10_lastOf : mV MX10_lastOf := ⟨⟨TB_in 1558 (by decide +kernel) rfl, TB_in 44 (by decide +kernel) rfl⟩, ⟨by decide +kernel, by decide⟩, by decide, rfl⟩
theorem mB_MX10_isList : mB MX10_isList := ⟨⟨TB_in 1584 (by decide +kernel) rfl, cini_10⟩, cn_10.1, cn_10.2, rfl⟩
theorem mV_MX10_isList : mV MX10_isList := ⟨⟨TB_in 1583 (by decide +kernel) rfl, TB_in 45 (by decide +kernel) rfl⟩, ⟨by decide +kernel, by decide⟩, by decide, rfl⟩
theorem mB_MX10_listMany : mB MX10_listMany := ⟨⟨TB_in 1588 (by decide +kernel) rfl, cini_10⟩, cn_10.1, cn_10.2, rfl⟩
theorem mV_MX10_listMany : mV MX10_listMany := ⟨⟨TB_in 1587 (by decide +kernel) rfl, TB_in 46 (by decide +kernel) rfl⟩, ⟨by decide +kernel, by decide⟩, by decide, rfl⟩
theorem mB_MX10_listAt : mB MX10_listAt := ⟨⟨TB_in 1592 (by decide +kernel) rfl, cini_10⟩, cn_10.1, cn_10.2, rfl⟩
theorem mV_MX10_listAt : mV MX10_listAt := ⟨⟨TB_in 1591 (by decide +kernel) rfl, TB_in 47 (by decide +kernel) rfl⟩, ⟨by decide +kernel, by decide⟩, by decide, rfl⟩
theorem mB_MX10_isBeside : mB MX10_isBeside := ⟨⟨TB_in 1600 (by decide +kernel) rfl, cini_10⟩, cn_10.1, cn_10.2, rfl⟩
theorem mV_MX10_isBeside : mV MX10_isBeside := ⟨⟨TB_in 1599 (by decide +kernel) rfl, TB_in 48 (by decide +kernel) rfl⟩, ⟨by decide +kernel, by decide⟩, by decide, rfl⟩
theorem mB_MX10_says : mB MX10_says := ⟨⟨TB_in 1612 (by decide +kernel) rfl, cini_10⟩, cn_10.1, cn_10.2, rfl⟩
theorem mV_MX10_says : mV MX10_says := ⟨⟨TB_in 1611 (by decide +kernel) rfl, TB_in 49 (by decide +kernel) rfl⟩, ⟨by decide +kernel, by decide⟩, by decide, rfl⟩
theorem mB_MX10_saysNumber : mB MX10_saysNumber := ⟨⟨TB_in 1616 (by decide +kernel) rfl, cini_10⟩, cn_10.1, cn_10.2, rfl⟩
theorem mV_MX10_saysNumber : mV MX10_saysNumber := ⟨⟨TB_in 1615 (by decide +kernel) rfl, TB_in 50 (by decide +kernel) rfl⟩, ⟨by decide +kernel, by decide⟩, by decide, rfl⟩
theorem mB_MX10_feeds : mB MX10_feeds := ⟨⟨TB_in 1628 (by decide +kernel) rfl, cini_10⟩, cn_10.1, cn_10.2, rfl⟩
theorem mV_MX10_feeds : mV MX10_feeds := ⟨⟨TB_in 1627 (by decide +kernel) rfl, TB_in 51 (by decide +kernel) rfl⟩, ⟨by decide +kernel, by decide⟩, by decide, rfl⟩
theorem mB_MX10_isOf : mB MX10_isOf := ⟨⟨TB_in 1640 (by decide +kernel) rfl, cini_10⟩, cn_10.1, cn_10.2, rfl⟩
theorem mV_MX10_isOf : mV MX10_isOf := ⟨⟨TB_in 1639 (by decide +kernel) rfl, TB_in 53 (by decide +kernel) rfl⟩, ⟨by decide +kernel, by decide⟩, by decide, rfl⟩
theorem mB_MX10_good : mB MX10_good := ⟨⟨TB_in 1646 (by decide +kernel) rfl, cini_10⟩, cn_10.1, cn_10.2, rfl⟩
theorem mV_MX10_good : mV MX10_good := ⟨⟨TB_in 1645 (by decide +kernel) rfl, TB_in 54 (by decide +kernel) rfl⟩, ⟨by decide +kernel, by decide⟩, by decide, rfl⟩
theorem mB_MX10_reads : mB MX10_reads := ⟨⟨TB_in 1636 (by decide +kernel) rfl, cini_10⟩, cn_10.1, cn_10.2, rfl⟩
theorem mV_MX10_reads : mV MX10_reads := ⟨⟨TB_in 1635 (by decide +kernel) rfl, TB_in 52 (by decide +kernel) rfl⟩, ⟨by decide +kernel, by decide⟩, by decide, rfl⟩
theorem mB_MX10_must : mB MX10_must := ⟨⟨TB_in 1658 (by decide +kernel) rfl, cini_10⟩, cn_10.1, cn_10.2, rfl⟩
theorem mV_MX10_must : mV MX10_must := ⟨⟨TB_in 1657 (by decide +kernel) rfl, TB_in 57 (by decide +kernel) rfl⟩, ⟨by decide +kernel, by decide⟩, by decide, rfl⟩
theorem mB_MX10_goesOn : mB MX10_goesOn := ⟨⟨TB_in 1662 (by decide +kernel) rfl, cini_10⟩, cn_10.1, cn_10.2, rfl⟩
theorem mV_MX10_goesOn : mV MX10_goesOn := ⟨⟨TB_in 1661 (by decide +kernel) rfl, TB_in 58 (by decide +kernel) rfl⟩, ⟨by decide +kernel, by decide⟩, by decide, rfl⟩
theorem mB_MX10_isName : mB MX10_isName := ⟨⟨TB_in 1670 (by decide +kernel) rfl, cini_10⟩, cn_10.1, cn_10.2, rfl⟩
theorem mV_MX10_isName : mV MX10_isName := ⟨⟨TB_in 1669 (by decide +kernel) rfl, TB_in 60 (by decide +kernel) rfl⟩, ⟨by decide +kernel, by decide⟩, by decide, rfl⟩
theorem mB_MX10_isWord : mB MX10_isWord := ⟨⟨TB_in 1650 (by decide +kernel) rfl, cini_10⟩, cn_10.1, cn_10.2, rfl⟩
theorem mV_MX10_isWord : mV MX10_isWord := ⟨⟨TB_in 1649 (by decide +kernel) rfl, TB_in 55 (by decide +kernel) rfl⟩, ⟨by decide +kernel, by decide⟩, by decide, rfl⟩
theorem mB_MX10_takes : mB MX10_takes := ⟨⟨TB_in 1674 (by decide +kernel) rfl, cini_10⟩, cn_10.1, cn_10.2, rfl⟩
theorem mV_MX10_takes : mV MX10_takes := ⟨⟨TB_in 1673 (by decide +kernel) rfl, TB_in 61 (by decide +kernel) rfl⟩, ⟨by decide +kernel, by decide⟩, by decide, rfl⟩
theorem mB_MX10_takesNumber : mB MX10_takesNumber := ⟨⟨TB_in 1678 (by decide +kernel) rfl, cini_10⟩, cn_10.1, cn_10.2, rfl⟩
theorem mV_MX10_takesNumber : mV MX10_takesNumber := ⟨⟨TB_in 1677 (by decide +kernel) rfl, TB_in 62 (by decide +kernel) rfl⟩, ⟨by decide +kernel, by decide⟩, by decide, rfl⟩
theorem mB_MX10_takesName : mB MX10_takesName := ⟨⟨TB_in 1666 (by decide +kernel) rfl, cini_10⟩, cn_10.1, cn_10.2, rfl⟩
theorem mV_MX10_takesName : mV MX10_takesName := ⟨⟨TB_in 1665 (by decide +kernel) rfl, TB_in 59 (by decide +kernel) rfl⟩, ⟨by decide +kernel, by decide⟩, by decide, rfl⟩
theorem mB_MX10_readsLaw : mB MX10_readsLaw := ⟨⟨TB_in 1682 (by decide +kernel) rfl, cini_10⟩, cn_10.1, cn_10.2, rfl⟩
theorem mV_MX10_readsLaw : mV MX10_readsLaw := ⟨⟨TB_in 1681 (by decide +kernel) rfl, TB_in 63 (by decide +kernel) rfl⟩, ⟨by decide +kernel, by decide⟩, by decide, rfl⟩
theorem mB_MX10_readsSieve : mB MX10_readsSieve := ⟨⟨TB_in 1654 (by decide +kernel) rfl, cini_10⟩, cn_10.1, cn_10.2, rfl⟩
theorem mV_MX10_readsSieve : mV MX10_readsSieve := ⟨⟨TB_in 1653 (by decide +kernel) rfl, TB_in 56 (by decide +kernel) rfl⟩, ⟨by decide +kernel, by decide⟩, by decide, rfl⟩
theorem mB_MX10_readsList : mB MX10_readsList := ⟨⟨TB_in 1686 (by decide +kernel) rfl, cini_10⟩, cn_10.1, cn_10.2, rfl⟩
theorem mV_MX10_readsList : mV MX10_readsList := ⟨⟨TB_in 1685 (by decide +kernel) rfl, TB_in 64 (by decide +kernel) rfl⟩, ⟨by decide +kernel, by decide⟩, by decide, rfl⟩
theorem mB_MX10_init : mB MX10_init := ⟨⟨TB_in 1091 (by decide +kernel) rfl, cini_10⟩, cn_10.1, cn_10.2, rfl⟩
theorem mC_MX10_init : mC MX10_init := ⟨TB_in 1090 (by decide +kernel) rfl, ⟨by decide +kernel, by decide⟩, rfl, rfl⟩
theorem mB_MX10_status : mB MX10_status := ⟨⟨TB_in 1214 (by decide +kernel) rfl, cini_10⟩, cn_10.1, cn_10.2, rfl⟩
theorem mV_MX10_status : mV MX10_status := ⟨⟨TB_in 1212 (by decide +kernel) rfl, TB_in 1213 (by decide +kernel) rfl⟩, ⟨by decide +kernel, by decide⟩, by decide, rfl⟩
theorem mB_MX10_feed : mB MX10_feed := ⟨⟨TB_in 1624 (by decide +kernel) rfl, cini_10⟩, cn_10.1, cn_10.2, rfl⟩
theorem mV_MX10_feed : mV MX10_feed := ⟨⟨TB_in 1622 (by decide +kernel) rfl, TB_in 1623 (by decide +kernel) rfl⟩, ⟨by decide +kernel, by decide⟩, by decide, rfl⟩
theorem mB_MX10_load : mB MX10_load := ⟨⟨TB_in 1632 (by decide +kernel) rfl, cini_10⟩, cn_10.1, cn_10.2, rfl⟩
theorem mV_MX10_load : mV MX10_load := ⟨⟨TB_in 1630 (by decide +kernel) rfl, TB_in 1631 (by decide +kernel) rfl⟩, ⟨by decide +kernel, by decide⟩, by decide, rfl⟩
theorem mB_MX10_fault : mB MX10_fault := ⟨⟨TB_in 1691 (by decide +kernel) rfl, cini_10⟩, cn_10.1, cn_10.2, rfl⟩
theorem mV_MX10_fault : mV MX10_fault := ⟨⟨TB_in 1689 (by decide +kernel) rfl, TB_in 1690 (by decide +kernel) rfl⟩, ⟨by decide +kernel, by decide⟩, by decide, rfl⟩
theorem mB_MX10_many : mB MX10_many := ⟨⟨TB_in 1218 (by decide +kernel) rfl, cini_10⟩, cn_10.1, cn_10.2, rfl⟩
theorem mV_MX10_many : mV MX10_many := ⟨⟨TB_in 1216 (by decide +kernel) rfl, TB_in 1217 (by decide +kernel) rfl⟩, ⟨by decide +kernel, by decide⟩, by decide, rfl⟩
theorem mB_MX10_sieve : mB MX10_sieve := ⟨⟨TB_in 1230 (by decide +kernel) rfl, cini_10⟩, cn_10.1, cn_10.2, rfl⟩
theorem mV_MX10_sieve : mV MX10_sieve := ⟨⟨TB_in 1228 (by decide +kernel) rfl, TB_in 1229 (by decide +kernel) rfl⟩, ⟨by decide +kernel, by decide⟩, by decide, rfl⟩
theorem mB_MX10_round : mB MX10_round := ⟨⟨TB_in 1275 (by decide +kernel) rfl, cini_10⟩, cn_10.1, cn_10.2, rfl⟩
theorem mV_MX10_round : mV MX10_round := ⟨⟨TB_in 1273 (by decide +kernel) rfl, TB_in 1274 (by decide +kernel) rfl⟩, ⟨by decide +kernel, by decide⟩, by decide, rfl⟩
theorem mB_MX10_all : mB MX10_all := ⟨⟨TB_in 1288 (by decide +kernel) rfl, cini_10⟩, cn_10.1, cn_10.2, rfl⟩
theorem mV_MX10_all : mV MX10_all := ⟨⟨TB_in 1286 (by decide +kernel) rfl, TB_in 1287 (by decide +kernel) rfl⟩, ⟨by decide +kernel, by decide⟩, by decide, rfl⟩
theorem mB_MX10_told : mB MX10_told := ⟨⟨TB_in 1336 (by decide +kernel) rfl, cini_10⟩, cn_10.1, cn_10.2, rfl⟩
theorem mV_MX10_told : mV MX10_told := ⟨⟨TB_in 1334 (by decide +kernel) rfl, TB_in 1335 (by decide +kernel) rfl⟩, ⟨by decide +kernel, by decide⟩, by decide, rfl⟩
theorem mB_MX10_strike : mB MX10_strike := ⟨⟨TB_in 1296 (by decide +kernel) rfl, cini_10⟩, cn_10.1, cn_10.2, rfl⟩
theorem mV_MX10_strike : mV MX10_strike := ⟨⟨TB_in 1294 (by decide +kernel) rfl, TB_in 1295 (by decide +kernel) rfl⟩, ⟨by decide +kernel, by decide⟩, by decide, rfl⟩
theorem mB_MX10_longer : mB MX10_longer := ⟨⟨TB_in 1312 (by decide +kernel) rfl, cini_10⟩, cn_10.1, cn_10.2, rfl⟩
theorem mV_MX10_longer : mV MX10_longer := ⟨⟨TB_in 1310 (by decide +kernel) rfl, TB_in 1311 (by decide +kernel) rfl⟩, ⟨by decide +kernel, by decide⟩, by decide, rfl⟩
theorem mB_MX10_make : mB MX10_make := ⟨⟨TB_in 1321 (by decide +kernel) rfl, cini_10⟩, cn_10.1, cn_10.2, rfl⟩
theorem mV_MX10_make : mV MX10_make := ⟨⟨TB_in 1319 (by decide +kernel) rfl, TB_in 1320 (by decide +kernel) rfl⟩, ⟨by decide +kernel, by decide⟩, by decide, rfl⟩
theorem mB_MX10_drop : mB MX10_drop := ⟨⟨TB_in 1328 (by decide +kernel) rfl, cini_10⟩, cn_10.1, cn_10.2, rfl⟩
theorem mV_MX10_drop : mV MX10_drop := ⟨⟨TB_in 1326 (by decide +kernel) rfl, TB_in 1327 (by decide +kernel) rfl⟩, ⟨by decide +kernel, by decide⟩, by decide, rfl⟩
theorem mB_MX10_undo : mB MX10_undo := ⟨⟨TB_in 1332 (by decide +kernel) rfl, cini_10⟩, cn_10.1, cn_10.2, rfl⟩
theorem mV_MX10_undo : mV MX10_undo := ⟨⟨TB_in 1330 (by decide +kernel) rfl, TB_in 1331 (by decide +kernel) rfl⟩, ⟨by decide +kernel, by decide⟩, by decide, rfl⟩
theorem mB_MX10_number : mB MX10_number := ⟨⟨TB_in 1352 (by decide +kernel) rfl, cini_10⟩, cn_10.1, cn_10.2, rfl⟩
theorem mV_MX10_number : mV MX10_number := ⟨⟨TB_in 1350 (by decide +kernel) rfl, TB_in 1351 (by decide +kernel) rfl⟩, ⟨by decide +kernel, by decide⟩, by decide, rfl⟩
theorem mB_MX10_rank : mB MX10_rank := ⟨⟨TB_in 1360 (by decide +kernel) rfl, cini_10⟩, cn_10.1, cn_10.2, rfl⟩
theorem mV_MX10_rank : mV MX10_rank := ⟨⟨TB_in 1358 (by decide +kernel) rfl, TB_in 1359 (by decide +kernel) rfl⟩, ⟨by decide +kernel, by decide⟩, by decide, rfl⟩
theorem mB_MX10_fate : mB MX10_fate := ⟨⟨TB_in 1368 (by decide +kernel) rfl, cini_10⟩, cn_10.1, cn_10.2, rfl⟩
theorem mV_MX10_fate : mV MX10_fate := ⟨⟨TB_in 1366 (by decide +kernel) rfl, TB_in 1367 (by decide +kernel) rfl⟩, ⟨by decide +kernel, by decide⟩, by decide, rfl⟩
theorem mB_MX10_back : mB MX10_back := ⟨⟨TB_in 1376 (by decide +kernel) rfl, cini_10⟩, cn_10.1, cn_10.2, rfl⟩
theorem mV_MX10_back : mV MX10_back := ⟨⟨TB_in 1374 (by decide +kernel) rfl, TB_in 1375 (by decide +kernel) rfl⟩, ⟨by decide +kernel, by decide⟩, by decide, rfl⟩
theorem mB_MX10_ahead : mB MX10_ahead := ⟨⟨TB_in 1380 (by decide +kernel) rfl, cini_10⟩, cn_10.1, cn_10.2, rfl⟩
theorem mV_MX10_ahead : mV MX10_ahead := ⟨⟨TB_in 1378 (by decide +kernel) rfl, TB_in 1379 (by decide +kernel) rfl⟩, ⟨by decide +kernel, by decide⟩, by decide, rfl⟩
theorem mB_MX10_would : mB MX10_would := ⟨⟨TB_in 1384 (by decide +kernel) rfl, cini_10⟩, cn_10.1, cn_10.2, rfl⟩
theorem mV_MX10_would : mV MX10_would := ⟨⟨TB_in 1382 (by decide +kernel) rfl, TB_in 1383 (by decide +kernel) rfl⟩, ⟨by decide +kernel, by decide⟩, by decide, rfl⟩
theorem mB_MX10_till : mB MX10_till := ⟨⟨TB_in 1392 (by decide +kernel) rfl, cini_10⟩, cn_10.1, cn_10.2, rfl⟩
theorem mV_MX10_till : mV MX10_till := ⟨⟨TB_in 1390 (by decide +kernel) rfl, TB_in 1391 (by decide +kernel) rfl⟩, ⟨by decide +kernel, by decide⟩, by decide, rfl⟩
theorem mB_MX10_origin : mB MX10_origin := ⟨⟨TB_in 1396 (by decide +kernel) rfl, cini_10⟩, cn_10.1, cn_10.2, rfl⟩
theorem mV_MX10_origin : mV MX10_origin := ⟨⟨TB_in 1394 (by decide +kernel) rfl, TB_in 1395 (by decide +kernel) rfl⟩, ⟨by decide +kernel, by decide⟩, by decide, rfl⟩
theorem mB_MX10_gone : mB MX10_gone := ⟨⟨TB_in 1404 (by decide +kernel) rfl, cini_10⟩, cn_10.1, cn_10.2, rfl⟩
theorem mV_MX10_gone : mV MX10_gone := ⟨⟨TB_in 1402 (by decide +kernel) rfl, TB_in 1403 (by decide +kernel) rfl⟩, ⟨by decide +kernel, by decide⟩, by decide, rfl⟩
theorem mB_MX10_upTo : mB MX10_upTo := ⟨⟨TB_in 1408 (by decide +kernel) rfl, cini_10⟩, cn_10.1, cn_10.2, rfl⟩
theorem mV_MX10_upTo : mV MX10_upTo := ⟨⟨TB_in 1406 (by decide +kernel) rfl, TB_in 1407 (by decide +kernel) rfl⟩, ⟨by decide +kernel, by decide⟩, by decide, rfl⟩
theorem mB_MX10_gap : mB MX10_gap := ⟨⟨TB_in 1416 (by decide +kernel) rfl, cini_10⟩, cn_10.1, cn_10.2, rfl⟩
theorem mV_MX10_gap : mV MX10_gap := ⟨⟨TB_in 1414 (by decide +kernel) rfl, TB_in 1415 (by decide +kernel) rfl⟩, ⟨by decide +kernel, by decide⟩, by decide, rfl⟩
theorem mB_MX10_gaps : mB MX10_gaps := ⟨⟨TB_in 1424 (by decide +kernel) rfl, cini_10⟩, cn_10.1, cn_10.2, rfl⟩
theorem mV_MX10_gaps : mV MX10_gaps := ⟨⟨TB_in 1422 (by decide +kernel) rfl, TB_in 1423 (by decide +kernel) rfl⟩, ⟨by decide +kernel, by decide⟩, by decide, rfl⟩
theorem mB_MX10_gapsOf : mB MX10_gapsOf := ⟨⟨TB_in 1436 (by decide +kernel) rfl, cini_10⟩, cn_10.1, cn_10.2, rfl⟩
theorem mV_MX10_gapsOf : mV MX10_gapsOf := ⟨⟨TB_in 1434 (by decide +kernel) rfl, TB_in 1435 (by decide +kernel) rfl⟩, ⟨by decide +kernel, by decide⟩, by decide, rfl⟩
theorem mB_MX10_record : mB MX10_record := ⟨⟨TB_in 1440 (by decide +kernel) rfl, cini_10⟩, cn_10.1, cn_10.2, rfl⟩
theorem mV_MX10_record : mV MX10_record := ⟨⟨TB_in 1438 (by decide +kernel) rfl, TB_in 1439 (by decide +kernel) rfl⟩, ⟨by decide +kernel, by decide⟩, by decide, rfl⟩
theorem mB_MX10_pairs : mB MX10_pairs := ⟨⟨TB_in 1460 (by decide +kernel) rfl, cini_10⟩, cn_10.1, cn_10.2, rfl⟩
theorem mV_MX10_pairs : mV MX10_pairs := ⟨⟨TB_in 1458 (by decide +kernel) rfl, TB_in 1459 (by decide +kernel) rfl⟩, ⟨by decide +kernel, by decide⟩, by decide, rfl⟩
theorem mB_MX10_triples : mB MX10_triples := ⟨⟨TB_in 1469 (by decide +kernel) rfl, cini_10⟩, cn_10.1, cn_10.2, rfl⟩
theorem mV_MX10_triples : mV MX10_triples := ⟨⟨TB_in 1467 (by decide +kernel) rfl, TB_in 1468 (by decide +kernel) rfl⟩, ⟨by decide +kernel, by decide⟩, by decide, rfl⟩
theorem mB_MX10_sums : mB MX10_sums := ⟨⟨TB_in 1473 (by decide +kernel) rfl, cini_10⟩, cn_10.1, cn_10.2, rfl⟩
theorem mV_MX10_sums : mV MX10_sums := ⟨⟨TB_in 1471 (by decide +kernel) rfl, TB_in 1472 (by decide +kernel) rfl⟩, ⟨by decide +kernel, by decide⟩, by decide, rfl⟩
theorem mB_MX10_misses : mB MX10_misses := ⟨⟨TB_in 1481 (by decide +kernel) rfl, cini_10⟩, cn_10.1, cn_10.2, rfl⟩
theorem mV_MX10_misses : mV MX10_misses := ⟨⟨TB_in 1479 (by decide +kernel) rfl, TB_in 1480 (by decide +kernel) rfl⟩, ⟨by decide +kernel, by decide⟩, by decide, rfl⟩
theorem mB_MX10_run : mB MX10_run := ⟨⟨TB_in 1485 (by decide +kernel) rfl, cini_10⟩, cn_10.1, cn_10.2, rfl⟩
theorem mV_MX10_run : mV MX10_run := ⟨⟨TB_in 1483 (by decide +kernel) rfl, TB_in 1484 (by decide +kernel) rfl⟩, ⟨by decide +kernel, by decide⟩, by decide, rfl⟩
theorem mB_MX10_progression : mB MX10_progression := ⟨⟨TB_in 1493 (by decide +kernel) rfl, cini_10⟩, cn_10.1, cn_10.2, rfl⟩
theorem mV_MX10_progression : mV MX10_progression := ⟨⟨TB_in 1491 (by decide +kernel) rfl, TB_in 1492 (by decide +kernel) rfl⟩, ⟨by decide +kernel, by decide⟩, by decide, rfl⟩
theorem mB_MX10_rests : mB MX10_rests := ⟨⟨TB_in 1501 (by decide +kernel) rfl, cini_10⟩, cn_10.1, cn_10.2, rfl⟩
theorem mV_MX10_rests : mV MX10_rests := ⟨⟨TB_in 1499 (by decide +kernel) rfl, TB_in 1500 (by decide +kernel) rfl⟩, ⟨by decide +kernel, by decide⟩, by decide, rfl⟩
theorem mB_MX10_ring : mB MX10_ring := ⟨⟨TB_in 1510 (by decide +kernel) rfl, cini_10⟩, cn_10.1, cn_10.2, rfl⟩
theorem mV_MX10_ring : mV MX10_ring := ⟨⟨TB_in 1508 (by decide +kernel) rfl, TB_in 1509 (by decide +kernel) rfl⟩, ⟨by decide +kernel, by decide⟩, by decide, rfl⟩
theorem mB_MX10_chain : mB MX10_chain := ⟨⟨TB_in 1514 (by decide +kernel) rfl, cini_10⟩, cn_10.1, cn_10.2, rfl⟩
theorem mV_MX10_chain : mV MX10_chain := ⟨⟨TB_in 1512 (by decide +kernel) rfl, TB_in 1513 (by decide +kernel) rfl⟩, ⟨by decide +kernel, by decide⟩, by decide, rfl⟩
theorem mB_MX10_spread : mB MX10_spread := ⟨⟨TB_in 1518 (by decide +kernel) rfl, cini_10⟩, cn_10.1, cn_10.2, rfl⟩
theorem mV_MX10_spread : mV MX10_spread := ⟨⟨TB_in 1516 (by decide +kernel) rfl, TB_in 1517 (by decide +kernel) rfl⟩, ⟨by decide +kernel, by decide⟩, by decide, rfl⟩
theorem mB_MX10_sketch : mB MX10_sketch := ⟨⟨TB_in 1522 (by decide +kernel) rfl, cini_10⟩, cn_10.1, cn_10.2, rfl⟩
theorem mV_MX10_sketch : mV MX10_sketch := ⟨⟨TB_in 1520 (by decide +kernel) rfl, TB_in 1521 (by decide +kernel) rfl⟩, ⟨by decide +kernel, by decide⟩, by decide, rfl⟩
theorem mB_MX10_balance : mB MX10_balance := ⟨⟨TB_in 1526 (by decide +kernel) rfl, cini_10⟩, cn_10.1, cn_10.2, rfl⟩
theorem mV_MX10_balance : mV MX10_balance := ⟨⟨TB_in 1524 (by decide +kernel) rfl, TB_in 1525 (by decide +kernel) rfl⟩, ⟨by decide +kernel, by decide⟩, by decide, rfl⟩
theorem mB_MX10_pattern : mB MX10_pattern := ⟨⟨TB_in 1448 (by decide +kernel) rfl, cini_10⟩, cn_10.1, cn_10.2, rfl⟩
theorem mV_MX10_pattern : mV MX10_pattern := ⟨⟨TB_in 1446 (by decide +kernel) rfl, TB_in 1447 (by decide +kernel) rfl⟩, ⟨by decide +kernel, by decide⟩, by decide, rfl⟩
theorem mB_MX10_mirror : mB MX10_mirror := ⟨⟨TB_in 1452 (by decide +kernel) rfl, cini_10⟩, cn_10.1, cn_10.2, rfl⟩
theorem mV_MX10_mirror : mV MX10_mirror := ⟨⟨TB_in 1450 (by decide +kernel) rfl, TB_in 1451 (by decide +kernel) rfl⟩, ⟨by decide +kernel, by decide⟩, by decide, rfl⟩
theorem mB_MX10_half : mB MX10_half := ⟨⟨TB_in 1530 (by decide +kernel) rfl, cini_10⟩, cn_10.1, cn_10.2, rfl⟩
theorem mV_MX10_half : mV MX10_half := ⟨⟨TB_in 1528 (by decide +kernel) rfl, TB_in 1529 (by decide +kernel) rfl⟩, ⟨by decide +kernel, by decide⟩, by decide, rfl⟩
theorem mB_MX10_usual : mB MX10_usual := ⟨⟨TB_in 1444 (by decide +kernel) rfl, cini_10⟩, cn_10.1, cn_10.2, rfl⟩
theorem mV_MX10_usual : mV MX10_usual := ⟨⟨TB_in 1442 (by decide +kernel) rfl, TB_in 1443 (by decide +kernel) rfl⟩, ⟨by decide +kernel, by decide⟩, by decide, rfl⟩
theorem mB_MX10_both : mB MX10_both := ⟨⟨TB_in 1534 (by decide +kernel) rfl, cini_10⟩, cn_10.1, cn_10.2, rfl⟩
theorem mV_MX10_both : mV MX10_both := ⟨⟨TB_in 1532 (by decide +kernel) rfl, TB_in 1533 (by decide +kernel) rfl⟩, ⟨by decide +kernel, by decide⟩, by decide, rfl⟩
theorem mB_MX10_lead : mB MX10_lead := ⟨⟨TB_in 1554 (by decide +kernel) rfl, cini_10⟩, cn_10.1, cn_10.2, rfl⟩
theorem mV_MX10_lead : mV MX10_lead := ⟨⟨TB_in 1552 (by decide +kernel) rfl, TB_in 1553 (by decide +kernel) rfl⟩, ⟨by decide +kernel, by decide⟩, by decide, rfl⟩
theorem mB_MX10_alike : mB MX10_alike := ⟨⟨TB_in 1563 (by decide +kernel) rfl, cini_10⟩, cn_10.1, cn_10.2, rfl⟩
theorem mV_MX10_alike : mV MX10_alike := ⟨⟨TB_in 1561 (by decide +kernel) rfl, TB_in 1562 (by decide +kernel) rfl⟩, ⟨by decide +kernel, by decide⟩, by decide, rfl⟩
theorem mB_MX10_through : mB MX10_through := ⟨⟨TB_in 1567 (by decide +kernel) rfl, cini_10⟩, cn_10.1, cn_10.2, rfl⟩
theorem mV_MX10_through : mV MX10_through := ⟨⟨TB_in 1565 (by decide +kernel) rfl, TB_in 1566 (by decide +kernel) rfl⟩, ⟨by decide +kernel, by decide⟩, by decide, rfl⟩
theorem mB_MX10_list : mB MX10_list := ⟨⟨TB_in 1580 (by decide +kernel) rfl, cini_10⟩, cn_10.1, cn_10.2, rfl⟩
theorem mV_MX10_list : mV MX10_list := ⟨⟨TB_in 1578 (by decide +kernel) rfl, TB_in 1579 (by decide +kernel) rfl⟩, ⟨by decide +kernel, by decide⟩, by decide, rfl⟩
theorem mB_MX10_fits : mB MX10_fits := ⟨⟨TB_in 1596 (by decide +kernel) rfl, cini_10⟩, cn_10.1, cn_10.2, rfl⟩
theorem mV_MX10_fits : mV MX10_fits := ⟨⟨TB_in 1594 (by decide +kernel) rfl, TB_in 1595 (by decide +kernel) rfl⟩, ⟨by decide +kernel, by decide⟩, by decide, rfl⟩
theorem mB_MX10_guess : mB MX10_guess := ⟨⟨TB_in 1604 (by decide +kernel) rfl, cini_10⟩, cn_10.1, cn_10.2, rfl⟩
theorem mV_MX10_guess : mV MX10_guess := ⟨⟨TB_in 1602 (by decide +kernel) rfl, TB_in 1603 (by decide +kernel) rfl⟩, ⟨by decide +kernel, by decide⟩, by decide, rfl⟩
theorem mB_MX10_meets : mB MX10_meets := ⟨⟨TB_in 1571 (by decide +kernel) rfl, cini_10⟩, cn_10.1, cn_10.2, rfl⟩
theorem mV_MX10_meets : mV MX10_meets := ⟨⟨TB_in 1569 (by decide +kernel) rfl, TB_in 1570 (by decide +kernel) rfl⟩, ⟨by decide +kernel, by decide⟩, by decide, rfl⟩
theorem mB_MX10_apart : mB MX10_apart := ⟨⟨TB_in 1576 (by decide +kernel) rfl, cini_10⟩, cn_10.1, cn_10.2, rfl⟩
theorem mV_MX10_apart : mV MX10_apart := ⟨⟨TB_in 1574 (by decide +kernel) rfl, TB_in 1575 (by decide +kernel) rfl⟩, ⟨by decide +kernel, by decide⟩, by decide, rfl⟩
theorem mB_MX10_print : mB MX10_print := ⟨⟨TB_in 1608 (by decide +kernel) rfl, cini_10⟩, cn_10.1, cn_10.2, rfl⟩
theorem mV_MX10_print : mV MX10_print := ⟨⟨TB_in 1606 (by decide +kernel) rfl, TB_in 1607 (by decide +kernel) rfl⟩, ⟨by decide +kernel, by decide⟩, by decide, rfl⟩
theorem mB_MX10_out : mB MX10_out := ⟨⟨TB_in 1620 (by decide +kernel) rfl, cini_10⟩, cn_10.1, cn_10.2, rfl⟩
theorem mV_MX10_out : mV MX10_out := ⟨⟨TB_in 1618 (by decide +kernel) rfl, TB_in 1619 (by decide +kernel) rfl⟩, ⟨by decide +kernel, by decide⟩, by decide, rfl⟩
theorem mB_MJ6_compare_7cf53 : mB MJ6_compare_7cf53 := ⟨⟨TB_in 991 (by decide +kernel) rfl, cini_12⟩, cn_12.1, cn_12.2, rfl⟩
theorem mS_MJ6_compare_7cf53 : mS MJ6_compare_7cf53 := ⟨TB_in 990 (by decide +kernel) rfl, by decide +kernel⟩
theorem mB_MJ0_coder_7d493 : mB MJ0_coder_7d493 := ⟨⟨TB_in 366 (by decide +kernel) rfl, cini_14⟩, cn_14.1, cn_14.2, rfl⟩
theorem mB_MJ0_isLatin1_aae02 : mB MJ0_isLatin1_aae02 := ⟨⟨TB_in 376 (by decide +kernel) rfl, cini_14⟩, cn_14.1, cn_14.2, rfl⟩
theorem mB_MJ0_checkIndex_df160 : mB MJ0_checkIndex_df160 := ⟨⟨TB_in 382 (by decide +kernel) rfl, cini_14⟩, cn_14.1, cn_14.2, rfl⟩
theorem mB_MJ0_length_8abf5 : mB MJ0_length_8abf5 := ⟨⟨TB_in 362 (by decide +kernel) rfl, cini_14⟩, cn_14.1, cn_14.2, rfl⟩
theorem mB_MJ0_charAt_5068e : mB MJ0_charAt_5068e := ⟨⟨TB_in 372 (by decide +kernel) rfl, cini_14⟩, cn_14.1, cn_14.2, rfl⟩
theorem mB_MJ1_charAt_3b067 : mB MJ1_charAt_3b067 := ⟨⟨TB_in 379 (by decide +kernel) rfl, cini_15⟩, cn_15.1, cn_15.2, rfl⟩
theorem mB_MJ2_charAt_3b067 : mB MJ2_charAt_3b067 := ⟨⟨TB_in 390 (by decide +kernel) rfl, cini_16⟩, cn_16.1, cn_16.2, rfl⟩
theorem mB_MJ2_length_9d52b : mB MJ2_length_9d52b := ⟨⟨TB_in 396 (by decide +kernel) rfl, cini_16⟩, cn_16.1, cn_16.2, rfl⟩
theorem mB_MJ2_checkIndex_2214a : mB MJ2_checkIndex_2214a := ⟨⟨TB_in 393 (by decide +kernel) rfl, cini_16⟩, cn_16.1, cn_16.2, rfl⟩
theorem mB_MJ2_getChar_3b067 : mB MJ2_getChar_3b067 := ⟨⟨TB_in 400 (by decide +kernel) rfl, cini_16⟩, cn_16.1, cn_16.2, rfl⟩
theorem mB_MJ3_checkIndex_8e157 : mB MJ3_checkIndex_8e157 := ⟨⟨TB_in 387 (by decide +kernel) rfl, cini_17⟩, cn_17.1, cn_17.2, rfl⟩
theorem lf_0_15 : LF 0 15 (0, MX7_numberAt) := ⟨mB_MX7_numberAt, TB_in 829 (by decide +kernel) rfl, mV_MX7_numberAt, by decide⟩
theorem lf_0_19 : LF 0 19 (0, MX7_has) := ⟨mB_MX7_has, TB_in 830 (by decide +kernel) rfl, mV_MX7_has, by decide⟩
theorem lf_0_23 : LF 0 23 (10, MJ9_max_7cf53) := ⟨TB_in 852 (by decide +kernel) rfl, rfl⟩
theorem lf_0_29 : LF 0 29 (1, MX0_isSum) := ⟨mB_MX0_isSum, TB_in 855 (by decide +kernel) rfl, mS_MX0_isSum, by decide⟩
theorem lf_0_35 : LF 0 35 (1, MX0_progressionLength) := ⟨mB_MX0_progressionLength, TB_in 875 (by decide +kernel) rfl, mS_MX0_progressionLength, by decide⟩
theorem lf_0_39 : LF 0 39 (2, MX9_clearCells) := ⟨mB_MX9_clearCells, ⟨"SieveHouse", NW_in 886 (by decide +kernel) rfl⟩, mS_MX9_clearCells, by decide⟩
theorem lf_0_43 : LF 0 43 (2, MX9_remainder) := ⟨mB_MX9_remainder, ⟨"SieveHouse", NW_in 887 (by decide +kernel) rfl⟩, mS_MX9_remainder, by decide⟩
theorem lf_0_46 : LF 0 46 (2, MX9_at) := ⟨mB_MX9_at, ⟨"SieveHouse", NW_in 888 (by decide +kernel) rfl⟩, mS_MX9_at, by decide⟩
theorem lf_0_50 : LF 0 50 (2, MX9_put) := ⟨mB_MX9_put, ⟨"SieveHouse", NW_in 889 (by decide +kernel) rfl⟩, mS_MX9_put, by decide⟩
theorem lF_0 : ∀ q ∈ lkT 0, LF 0 q.1 q.2 := List.forall_mem_cons.mpr ⟨lf_0_15, List.forall_mem_cons.mpr ⟨lf_0_19, List.forall_mem_cons.mpr ⟨lf_0_23, List.forall_mem_cons.mpr ⟨lf_0_29, List.forall_mem_cons.mpr ⟨lf_0_35, List.forall_mem_cons.mpr ⟨lf_0_39, List.forall_mem_cons.mpr ⟨lf_0_43, List.forall_mem_cons.mpr ⟨lf_0_46, List.forall_mem_cons.mpr ⟨lf_0_50, fun _ h => absurd h List.not_mem_nil⟩⟩⟩⟩⟩⟩⟩⟩⟩
theorem lf_1_15 : LF 1 15 (0, MX7_numberAt) := ⟨mB_MX7_numberAt, TB_in 972 (by decide +kernel) rfl, mV_MX7_numberAt, by decide⟩
theorem lf_1_19 : LF 1 19 (0, MX7_has) := ⟨mB_MX7_has, TB_in 973 (by decide +kernel) rfl, mV_MX7_has, by decide⟩
theorem lf_1_23 : LF 1 23 (1, MX1_leastNotIn) := ⟨mB_MX1_leastNotIn, TB_in 977 (by decide +kernel) rfl, mS_MX1_leastNotIn, by decide⟩
theorem lf_1_29 : LF 1 29 (9, MJ9_min_7cf53) := ⟨TB_in 980 (by decide +kernel) rfl, rfl⟩
theorem lf_1_35 : LF 1 35 (0, MX7_countUpTo) := ⟨mB_MX7_countUpTo, TB_in 988 (by decide +kernel) rfl, mV_MX7_countUpTo, by decide⟩
theorem lf_1_38 : LF 1 38 (1, MJ6_compare_7cf53) := ⟨mB_MJ6_compare_7cf53, TB_in 989 (by decide +kernel) rfl, mS_MJ6_compare_7cf53, by decide⟩
theorem lf_1_43 : LF 1 43 (1, MX1_lesserOf) := ⟨mB_MX1_lesserOf, TB_in 992 (by decide +kernel) rfl, mS_MX1_lesserOf, by decide⟩
theorem lf_1_53 : LF 1 53 (2, MX9_at) := ⟨mB_MX9_at, ⟨"SieveHouse", NW_in 1002 (by decide +kernel) rfl⟩, mS_MX9_at, by decide⟩
theorem lF_1 : ∀ q ∈ lkT 1, LF 1 q.1 q.2 := List.forall_mem_cons.mpr ⟨lf_1_15, List.forall_mem_cons.mpr ⟨lf_1_19, List.forall_mem_cons.mpr ⟨lf_1_23, List.forall_mem_cons.mpr ⟨lf_1_29, List.forall_mem_cons.mpr ⟨lf_1_35, List.forall_mem_cons.mpr ⟨lf_1_38, List.forall_mem_cons.mpr ⟨lf_1_43, List.forall_mem_cons.mpr ⟨lf_1_53, fun _ h => absurd h List.not_mem_nil⟩⟩⟩⟩⟩⟩⟩⟩
theorem lf_2_19 : LF 2 19 (2, MX9_copyCells) := ⟨mB_MX9_copyCells, ⟨"SieveHouse", NW_in 533 (by decide +kernel) rfl⟩, mS_MX9_copyCells, by decide⟩
theorem lf_2_23 : LF 2 23 (2, MX9_put) := ⟨mB_MX9_put, ⟨"SieveHouse", NW_in 506 (by decide +kernel) rfl⟩, mS_MX9_put, by decide⟩
theorem lf_2_27 : LF 2 27 (2, MX9_within) := ⟨mB_MX9_within, ⟨"SieveHouse", NW_in 1019 (by decide +kernel) rfl⟩, mS_MX9_within, by decide⟩
theorem lf_2_31 : LF 2 31 (2, MX9_at) := ⟨mB_MX9_at, ⟨"SieveHouse", NW_in 1020 (by decide +kernel) rfl⟩, mS_MX9_at, by decide⟩
theorem lf_2_35 : LF 2 35 (0, MX2_numberAt) := ⟨mB_MX2_numberAt, TB_in 1029 (by decide +kernel) rfl, mV_MX2_numberAt, by decide⟩
theorem lf_2_39 : LF 2 39 (0, MX7_has) := ⟨mB_MX7_has, TB_in 1030 (by decide +kernel) rfl, mV_MX7_has, by decide⟩
theorem lf_2_45 : LF 2 45 (0, MX7_placeOf) := ⟨mB_MX7_placeOf, TB_in 1039 (by decide +kernel) rfl, mV_MX7_placeOf, by decide⟩
theorem lf_2_48 : LF 2 48 (0, MX7_numberAt) := ⟨mB_MX7_numberAt, TB_in 1040 (by decide +kernel) rfl, mV_MX7_numberAt, by decide⟩
theorem lF_2 : ∀ q ∈ lkT 2, LF 2 q.1 q.2 := List.forall_mem_cons.mpr ⟨lf_2_19, List.forall_mem_cons.mpr ⟨lf_2_23, List.forall_mem_cons.mpr ⟨lf_2_27, List.forall_mem_cons.mpr ⟨lf_2_31, List.forall_mem_cons.mpr ⟨lf_2_35, List.forall_mem_cons.mpr ⟨lf_2_39, List.forall_mem_cons.mpr ⟨lf_2_45, List.forall_mem_cons.mpr ⟨lf_2_48, fun _ h => absurd h List.not_mem_nil⟩⟩⟩⟩⟩⟩⟩⟩
theorem lf_3_15 : LF 3 15 (2, MX9_within) := ⟨mB_MX9_within, ⟨"SieveHouse", NW_in 621 (by decide +kernel) rfl⟩, mS_MX9_within, by decide⟩
theorem lf_3_23 : LF 3 23 (2, MX9_at) := ⟨mB_MX9_at, ⟨"SieveHouse", NW_in 622 (by decide +kernel) rfl⟩, mS_MX9_at, by decide⟩
theorem lf_3_30 : LF 3 30 (1, MX3_countFrom) := ⟨mB_MX3_countFrom, TB_in 623 (by decide +kernel) rfl, mS_MX3_countFrom, by decide⟩
theorem lf_3_36 : LF 3 36 (1, MX3_firstStruckBy) := ⟨mB_MX3_firstStruckBy, TB_in 629 (by decide +kernel) rfl, mS_MX3_firstStruckBy, by decide⟩
theorem lf_3_39 : LF 3 39 (0, MX7_indexOf) := ⟨mB_MX7_indexOf, TB_in 720 (by decide +kernel) rfl, mV_MX7_indexOf, by decide⟩
theorem lf_3_43 : LF 3 43 (0, MX7_isHere) := ⟨mB_MX7_isHere, TB_in 721 (by decide +kernel) rfl, mV_MX7_isHere, by decide⟩
theorem lf_3_50 : LF 3 50 (1, MX3_roundOfEvent) := ⟨mB_MX3_roundOfEvent, TB_in 722 (by decide +kernel) rfl, mS_MX3_roundOfEvent, by decide⟩
theorem lf_3_53 : LF 3 53 (1, MX3_placeAhead) := ⟨mB_MX3_placeAhead, TB_in 626 (by decide +kernel) rfl, mS_MX3_placeAhead, by decide⟩
theorem lf_3_57 : LF 3 57 (1, MX3_indexAhead) := ⟨mB_MX3_indexAhead, TB_in 732 (by decide +kernel) rfl, mS_MX3_indexAhead, by decide⟩
theorem lf_3_63 : LF 3 63 (0, MX7_firstNumber) := ⟨mB_MX7_firstNumber, TB_in 632 (by decide +kernel) rfl, mV_MX7_firstNumber, by decide⟩
theorem lF_3 : ∀ q ∈ lkT 3, LF 3 q.1 q.2 := List.forall_mem_cons.mpr ⟨lf_3_15, List.forall_mem_cons.mpr ⟨lf_3_23, List.forall_mem_cons.mpr ⟨lf_3_30, List.forall_mem_cons.mpr ⟨lf_3_36, List.forall_mem_cons.mpr ⟨lf_3_39, List.forall_mem_cons.mpr ⟨lf_3_43, List.forall_mem_cons.mpr ⟨lf_3_50, List.forall_mem_cons.mpr ⟨lf_3_53, List.forall_mem_cons.mpr ⟨lf_3_57, List.forall_mem_cons.mpr ⟨lf_3_63, fun _ h => absurd h List.not_mem_nil⟩⟩⟩⟩⟩⟩⟩⟩⟩⟩
theorem lf_4_24 : LF 4 24 (0, MX4_append) := ⟨mB_MX4_append, TB_in 1070 (by decide +kernel) rfl, mV_MX4_append, by decide⟩
theorem lf_4_28 : LF 4 28 (0, MX7_numberAt) := ⟨mB_MX7_numberAt, TB_in 1075 (by decide +kernel) rfl, mV_MX7_numberAt, by decide⟩
theorem lf_4_32 : LF 4 32 (0, MX4_appendNumber) := ⟨mB_MX4_appendNumber, TB_in 1076 (by decide +kernel) rfl, mV_MX4_appendNumber, by decide⟩
theorem lf_4_35 : LF 4 35 (1, MX8_runEnd) := ⟨mB_MX8_runEnd, TB_in 1081 (by decide +kernel) rfl, mS_MX8_runEnd, by decide⟩
theorem lf_4_41 : LF 4 41 (2, MX9_put) := ⟨mB_MX9_put, ⟨"SieveHouse", NW_in 1074 (by decide +kernel) rfl⟩, mS_MX9_put, by decide⟩
theorem lF_4 : ∀ q ∈ lkT 4, LF 4 q.1 q.2 := List.forall_mem_cons.mpr ⟨lf_4_24, List.forall_mem_cons.mpr ⟨lf_4_28, List.forall_mem_cons.mpr ⟨lf_4_32, List.forall_mem_cons.mpr ⟨lf_4_35, List.forall_mem_cons.mpr ⟨lf_4_41, fun _ h => absurd h List.not_mem_nil⟩⟩⟩⟩⟩
theorem lf_5_40 : LF 5 40 (4, MX7_init) := ⟨mB_MX7_init, ⟨"SieveHouse", NW_in 102 (by decide +kernel) rfl⟩, mC_MX7_init, by decide⟩
theorem lf_5_41 : LF 5 41 (4, MX2_init) := ⟨mB_MX2_init, ⟨"SieveHouse", NW_in 168 (by decide +kernel) rfl⟩, mC_MX2_init, by decide⟩
theorem lf_5_42 : LF 5 42 (2, MX9_within) := ⟨mB_MX9_within, ⟨"SieveHouse", NW_in 415 (by decide +kernel) rfl⟩, mS_MX9_within, by decide⟩
theorem lf_5_49 : LF 5 49 (0, MX5_appendInt) := ⟨mB_MX5_appendInt, TB_in 318 (by decide +kernel) rfl, mV_MX5_appendInt, by decide⟩
theorem lf_5_53 : LF 5 53 (2, MX9_put) := ⟨mB_MX9_put, ⟨"SieveHouse", NW_in 322 (by decide +kernel) rfl⟩, mS_MX9_put, by decide⟩
theorem lf_5_69 : LF 5 69 (0, MX5_look) := ⟨mB_MX5_look, TB_in 337 (by decide +kernel) rfl, mV_MX5_look, by decide⟩
theorem lf_5_77 : LF 5 77 (0, MX5_is) := ⟨mB_MX5_is, TB_in 355 (by decide +kernel) rfl, mV_MX5_is, by decide⟩
theorem lf_5_81 : LF 5 81 (0, MX5_readSieve) := ⟨mB_MX5_readSieve, TB_in 407 (by decide +kernel) rfl, mV_MX5_readSieve, by decide⟩
theorem lf_5_87 : LF 5 87 (0, MX5_readList) := ⟨mB_MX5_readList, TB_in 494 (by decide +kernel) rfl, mV_MX5_readList, by decide⟩
theorem lf_5_90 : LF 5 90 (0, MX5_unexpected) := ⟨mB_MX5_unexpected, TB_in 441 (by decide +kernel) rfl, mV_MX5_unexpected, by decide⟩
theorem lf_5_93 : LF 5 93 (0, MX5_sieveAt) := ⟨mB_MX5_sieveAt, TB_in 411 (by decide +kernel) rfl, mV_MX5_sieveAt, by decide⟩
theorem lf_5_97 : LF 5 97 (0, MX5_refuse) := ⟨mB_MX5_refuse, TB_in 418 (by decide +kernel) rfl, mV_MX5_refuse, by decide⟩
theorem lf_5_101 : LF 5 101 (0, MX5_readName) := ⟨mB_MX5_readName, TB_in 422 (by decide +kernel) rfl, mV_MX5_readName, by decide⟩
theorem lf_5_106 : LF 5 106 (0, MX5_readWord) := ⟨mB_MX5_readWord, TB_in 452 (by decide +kernel) rfl, mV_MX5_readWord, by decide⟩
theorem lf_5_109 : LF 5 109 (0, MX5_readNumber) := ⟨mB_MX5_readNumber, TB_in 456 (by decide +kernel) rfl, mV_MX5_readNumber, by decide⟩
theorem lf_5_117 : LF 5 117 (0, MX5_kindOfLaw) := ⟨mB_MX5_kindOfLaw, TB_in 460 (by decide +kernel) rfl, mV_MX5_kindOfLaw, by decide⟩
theorem lf_5_121 : LF 5 121 (0, MX7_set) := ⟨mB_MX7_set, TB_in 464 (by decide +kernel) rfl, mV_MX7_set, by decide⟩
theorem lf_5_125 : LF 5 125 (0, MX5_readFixed) := ⟨mB_MX5_readFixed, TB_in 478 (by decide +kernel) rfl, mV_MX5_readFixed, by decide⟩
theorem lf_5_129 : LF 5 129 (0, MX5_readTold) := ⟨mB_MX5_readTold, TB_in 482 (by decide +kernel) rfl, mV_MX5_readTold, by decide⟩
theorem lf_5_132 : LF 5 132 (0, MX5_readSign) := ⟨mB_MX5_readSign, TB_in 490 (by decide +kernel) rfl, mV_MX5_readSign, by decide⟩
theorem lf_5_155 : LF 5 155 (0, MX5_refuseSurplus) := ⟨mB_MX5_refuseSurplus, TB_in 486 (by decide +kernel) rfl, mV_MX5_refuseSurplus, by decide⟩
theorem lf_5_159 : LF 5 159 (0, MX5_listAt) := ⟨mB_MX5_listAt, TB_in 498 (by decide +kernel) rfl, mV_MX5_listAt, by decide⟩
theorem lf_5_166 : LF 5 166 (0, MX2_append) := ⟨mB_MX2_append, TB_in 502 (by decide +kernel) rfl, mV_MX2_append, by decide⟩
theorem lf_5_169 : LF 5 169 (0, MX5_isReserved) := ⟨mB_MX5_isReserved, TB_in 426 (by decide +kernel) rfl, mV_MX5_isReserved, by decide⟩
theorem lf_5_172 : LF 5 172 (2, MX9_at) := ⟨mB_MX9_at, ⟨"SieveHouse", NW_in 445 (by decide +kernel) rfl⟩, mS_MX9_at, by decide⟩
theorem lf_5_176 : LF 5 176 (0, MX5_isSameWord) := ⟨mB_MX5_isSameWord, TB_in 448 (by decide +kernel) rfl, mV_MX5_isSameWord, by decide⟩
theorem lf_5_185 : LF 5 185 (0, MX5_byteAt) := ⟨mB_MX5_byteAt, TB_in 341 (by decide +kernel) rfl, mV_MX5_byteAt, by decide⟩
theorem lf_5_189 : LF 5 189 (1, MX5_isBlank) := ⟨mB_MX5_isBlank, TB_in 345 (by decide +kernel) rfl, mS_MX5_isBlank, by decide⟩
theorem lf_5_192 : LF 5 192 (1, MX5_isLetter) := ⟨mB_MX5_isLetter, TB_in 348 (by decide +kernel) rfl, mS_MX5_isLetter, by decide⟩
theorem lf_5_195 : LF 5 195 (1, MX5_isDigit) := ⟨mB_MX5_isDigit, TB_in 351 (by decide +kernel) rfl, mS_MX5_isDigit, by decide⟩
theorem lf_5_198 : LF 5 198 (7, MJ0_length_8abf5) := ⟨mB_MJ0_length_8abf5, TB_in 359 (by decide +kernel) rfl, rfl⟩
theorem lf_5_202 : LF 5 202 (8, MJ0_charAt_5068e) := ⟨mB_MJ0_charAt_5068e, TB_in 369 (by decide +kernel) rfl, rfl⟩
theorem lF_5 : ∀ q ∈ lkT 5, LF 5 q.1 q.2 := List.forall_mem_cons.mpr ⟨lf_5_40, List.forall_mem_cons.mpr ⟨lf_5_41, List.forall_mem_cons.mpr ⟨lf_5_42, List.forall_mem_cons.mpr ⟨lf_5_49, List.forall_mem_cons.mpr ⟨lf_5_53, List.forall_mem_cons.mpr ⟨lf_5_69, List.forall_mem_cons.mpr ⟨lf_5_77, List.forall_mem_cons.mpr ⟨lf_5_81, List.forall_mem_cons.mpr ⟨lf_5_87, List.forall_mem_cons.mpr ⟨lf_5_90, List.forall_mem_cons.mpr ⟨lf_5_93, List.forall_mem_cons.mpr ⟨lf_5_97, List.forall_mem_cons.mpr ⟨lf_5_101, List.forall_mem_cons.mpr ⟨lf_5_106, List.forall_mem_cons.mpr ⟨lf_5_109, List.forall_mem_cons.mpr ⟨lf_5_117, List.forall_mem_cons.mpr ⟨lf_5_121, List.forall_mem_cons.mpr ⟨lf_5_125, List.forall_mem_cons.mpr ⟨lf_5_129, List.forall_mem_cons.mpr ⟨lf_5_132, List.forall_mem_cons.mpr ⟨lf_5_155, List.forall_mem_cons.mpr ⟨lf_5_159, List.forall_mem_cons.mpr ⟨lf_5_166, List.forall_mem_cons.mpr ⟨lf_5_169, List.forall_mem_cons.mpr ⟨lf_5_172, List.forall_mem_cons.mpr ⟨lf_5_176, List.forall_mem_cons.mpr ⟨lf_5_185, List.forall_mem_cons.mpr ⟨lf_5_189, List.forall_mem_cons.mpr ⟨lf_5_192, List.forall_mem_cons.mpr ⟨lf_5_195, List.forall_mem_cons.mpr ⟨lf_5_198, List.forall_mem_cons.mpr ⟨lf_5_202, fun _ h => absurd h List.not_mem_nil⟩⟩⟩⟩⟩⟩⟩⟩⟩⟩⟩⟩⟩⟩⟩⟩⟩⟩⟩⟩⟩⟩⟩⟩⟩⟩⟩⟩⟩⟩⟩⟩
theorem lf_6_33 : LF 6 33 (4, MX7_init) := ⟨mB_MX7_init, ⟨"SieveHouse", NW_in 240 (by decide +kernel) rfl⟩, mC_MX7_init, by decide⟩
theorem lf_6_34 : LF 6 34 (4, MX2_init) := ⟨mB_MX2_init, ⟨"SieveHouse", NW_in 241 (by decide +kernel) rfl⟩, mC_MX2_init, by decide⟩
theorem lf_6_39 : LF 6 39 (2, MX9_within) := ⟨mB_MX9_within, ⟨"SieveHouse", NW_in 515 (by decide +kernel) rfl⟩, mS_MX9_within, by decide⟩
theorem lf_6_55 : LF 6 55 (0, MX6_sieveAt) := ⟨mB_MX6_sieveAt, TB_in 511 (by decide +kernel) rfl, mV_MX6_sieveAt, by decide⟩
theorem lf_6_59 : LF 6 59 (0, MX5_sieveAt) := ⟨mB_MX5_sieveAt, TB_in 516 (by decide +kernel) rfl, mV_MX5_sieveAt, by decide⟩
theorem lf_6_60 : LF 6 60 (0, MX7_takeOver) := ⟨mB_MX7_takeOver, TB_in 517 (by decide +kernel) rfl, mV_MX7_takeOver, by decide⟩
theorem lf_6_64 : LF 6 64 (0, MX6_listAt) := ⟨mB_MX6_listAt, TB_in 524 (by decide +kernel) rfl, mV_MX6_listAt, by decide⟩
theorem lf_6_68 : LF 6 68 (0, MX5_listAt) := ⟨mB_MX5_listAt, TB_in 528 (by decide +kernel) rfl, mV_MX5_listAt, by decide⟩
theorem lf_6_69 : LF 6 69 (0, MX2_takeOver) := ⟨mB_MX2_takeOver, TB_in 529 (by decide +kernel) rfl, mV_MX2_takeOver, by decide⟩
theorem lf_6_72 : LF 6 72 (0, MX6_forgetOldest) := ⟨mB_MX6_forgetOldest, TB_in 591 (by decide +kernel) rfl, mV_MX6_forgetOldest, by decide⟩
theorem lf_6_75 : LF 6 75 (2, MX9_put) := ⟨mB_MX9_put, ⟨"SieveHouse", NW_in 596 (by decide +kernel) rfl⟩, mS_MX9_put, by decide⟩
theorem lf_6_79 : LF 6 79 (2, MX9_at) := ⟨mB_MX9_at, ⟨"SieveHouse", NW_in 595 (by decide +kernel) rfl⟩, mS_MX9_at, by decide⟩
theorem lf_6_83 : LF 6 83 (0, MX6_keepAct) := ⟨mB_MX6_keepAct, TB_in 682 (by decide +kernel) rfl, mV_MX6_keepAct, by decide⟩
theorem lf_6_87 : LF 6 87 (0, MX6_openAt) := ⟨mB_MX6_openAt, TB_in 700 (by decide +kernel) rfl, mV_MX6_openAt, by decide⟩
theorem lF_6 : ∀ q ∈ lkT 6, LF 6 q.1 q.2 := List.forall_mem_cons.mpr ⟨lf_6_33, List.forall_mem_cons.mpr ⟨lf_6_34, List.forall_mem_cons.mpr ⟨lf_6_39, List.forall_mem_cons.mpr ⟨lf_6_55, List.forall_mem_cons.mpr ⟨lf_6_59, List.forall_mem_cons.mpr ⟨lf_6_60, List.forall_mem_cons.mpr ⟨lf_6_64, List.forall_mem_cons.mpr ⟨lf_6_68, List.forall_mem_cons.mpr ⟨lf_6_69, List.forall_mem_cons.mpr ⟨lf_6_72, List.forall_mem_cons.mpr ⟨lf_6_75, List.forall_mem_cons.mpr ⟨lf_6_79, List.forall_mem_cons.mpr ⟨lf_6_83, List.forall_mem_cons.mpr ⟨lf_6_87, fun _ h => absurd h List.not_mem_nil⟩⟩⟩⟩⟩⟩⟩⟩⟩⟩⟩⟩⟩⟩
theorem lf_7_43 : LF 7 43 (0, MX7_begin) := ⟨mB_MX7_begin, TB_in 468 (by decide +kernel) rfl, mV_MX7_begin, by decide⟩
theorem lf_7_56 : LF 7 56 (0, MX7_firstNumber) := ⟨mB_MX7_firstNumber, TB_in 473 (by decide +kernel) rfl, mV_MX7_firstNumber, by decide⟩
theorem lf_7_60 : LF 7 60 (2, MX9_put) := ⟨mB_MX9_put, ⟨"SieveHouse", NW_in 477 (by decide +kernel) rfl⟩, mS_MX9_put, by decide⟩
theorem lf_7_67 : LF 7 67 (2, MX9_copyCells) := ⟨mB_MX9_copyCells, ⟨"SieveHouse", NW_in 521 (by decide +kernel) rfl⟩, mS_MX9_copyCells, by decide⟩
theorem lf_7_71 : LF 7 71 (0, MX7_nextGap) := ⟨mB_MX7_nextGap, TB_in 557 (by decide +kernel) rfl, mV_MX7_nextGap, by decide⟩
theorem lf_7_75 : LF 7 75 (2, MX9_at) := ⟨mB_MX9_at, ⟨"SieveHouse", NW_in 565 (by decide +kernel) rfl⟩, mS_MX9_at, by decide⟩
theorem lf_7_79 : LF 7 79 (0, MX7_isHere) := ⟨mB_MX7_isHere, TB_in 649 (by decide +kernel) rfl, mV_MX7_isHere, by decide⟩
theorem lf_7_83 : LF 7 83 (2, MX9_within) := ⟨mB_MX9_within, ⟨"SieveHouse", NW_in 570 (by decide +kernel) rfl⟩, mS_MX9_within, by decide⟩
theorem lf_7_87 : LF 7 87 (0, MX7_numberAt) := ⟨mB_MX7_numberAt, TB_in 566 (by decide +kernel) rfl, mV_MX7_numberAt, by decide⟩
theorem lf_7_90 : LF 7 90 (0, MX7_indexOf) := ⟨mB_MX7_indexOf, TB_in 601 (by decide +kernel) rfl, mV_MX7_indexOf, by decide⟩
theorem lf_7_94 : LF 7 94 (0, MX7_has) := ⟨mB_MX7_has, TB_in 645 (by decide +kernel) rfl, mV_MX7_has, by decide⟩
theorem lf_7_98 : LF 7 98 (0, MX7_countUpTo) := ⟨mB_MX7_countUpTo, TB_in 653 (by decide +kernel) rfl, mV_MX7_countUpTo, by decide⟩
theorem lf_7_101 : LF 7 101 (0, MX7_gapByLaw) := ⟨mB_MX7_gapByLaw, TB_in 561 (by decide +kernel) rfl, mV_MX7_gapByLaw, by decide⟩
theorem lf_7_104 : LF 7 104 (0, MX7_strikesAny) := ⟨mB_MX7_strikesAny, TB_in 571 (by decide +kernel) rfl, mV_MX7_strikesAny, by decide⟩
theorem lf_7_107 : LF 7 107 (0, MX7_strikesPlace) := ⟨mB_MX7_strikesPlace, TB_in 575 (by decide +kernel) rfl, mV_MX7_strikesPlace, by decide⟩
theorem lf_7_110 : LF 7 110 (2, MX9_remainder) := ⟨mB_MX9_remainder, ⟨"SieveHouse", NW_in 579 (by decide +kernel) rfl⟩, mS_MX9_remainder, by decide⟩
theorem lf_7_114 : LF 7 114 (0, MX7_sweep) := ⟨mB_MX7_sweep, TB_in 613 (by decide +kernel) rfl, mV_MX7_sweep, by decide⟩
theorem lf_7_117 : LF 7 117 (0, MX7_closeUp) := ⟨mB_MX7_closeUp, TB_in 661 (by decide +kernel) rfl, mV_MX7_closeUp, by decide⟩
theorem lf_7_120 : LF 7 120 (0, MX7_sweepAtMost) := ⟨mB_MX7_sweepAtMost, TB_in 673 (by decide +kernel) rfl, mV_MX7_sweepAtMost, by decide⟩
theorem lF_7 : ∀ q ∈ lkT 7, LF 7 q.1 q.2 := List.forall_mem_cons.mpr ⟨lf_7_43, List.forall_mem_cons.mpr ⟨lf_7_56, List.forall_mem_cons.mpr ⟨lf_7_60, List.forall_mem_cons.mpr ⟨lf_7_67, List.forall_mem_cons.mpr ⟨lf_7_71, List.forall_mem_cons.mpr ⟨lf_7_75, List.forall_mem_cons.mpr ⟨lf_7_79, List.forall_mem_cons.mpr ⟨lf_7_83, List.forall_mem_cons.mpr ⟨lf_7_87, List.forall_mem_cons.mpr ⟨lf_7_90, List.forall_mem_cons.mpr ⟨lf_7_94, List.forall_mem_cons.mpr ⟨lf_7_98, List.forall_mem_cons.mpr ⟨lf_7_101, List.forall_mem_cons.mpr ⟨lf_7_104, List.forall_mem_cons.mpr ⟨lf_7_107, List.forall_mem_cons.mpr ⟨lf_7_110, List.forall_mem_cons.mpr ⟨lf_7_114, List.forall_mem_cons.mpr ⟨lf_7_117, List.forall_mem_cons.mpr ⟨lf_7_120, fun _ h => absurd h List.not_mem_nil⟩⟩⟩⟩⟩⟩⟩⟩⟩⟩⟩⟩⟩⟩⟩⟩⟩⟩⟩
theorem lf_8_15 : LF 8 15 (0, MX7_gapAt) := ⟨mB_MX7_gapAt, TB_in 799 (by decide +kernel) rfl, mV_MX7_gapAt, by decide⟩
theorem lf_8_19 : LF 8 19 (2, MX9_clearCells) := ⟨mB_MX9_clearCells, ⟨"SieveHouse", NW_in 796 (by decide +kernel) rfl⟩, mS_MX9_clearCells, by decide⟩
theorem lf_8_26 : LF 8 26 (2, MX9_quotient) := ⟨mB_MX9_quotient, ⟨"SieveHouse", NW_in 800 (by decide +kernel) rfl⟩, mS_MX9_quotient, by decide⟩
theorem lf_8_30 : LF 8 30 (2, MX9_at) := ⟨mB_MX9_at, ⟨"SieveHouse", NW_in 803 (by decide +kernel) rfl⟩, mS_MX9_at, by decide⟩
theorem lf_8_34 : LF 8 34 (2, MX9_put) := ⟨mB_MX9_put, ⟨"SieveHouse", NW_in 804 (by decide +kernel) rfl⟩, mS_MX9_put, by decide⟩
theorem lf_8_38 : LF 8 38 (1, MX8_tallyGaps) := ⟨mB_MX8_tallyGaps, TB_in 793 (by decide +kernel) rfl, mS_MX8_tallyGaps, by decide⟩
theorem lf_8_46 : LF 8 46 (0, MX7_numberAt) := ⟨mB_MX7_numberAt, TB_in 898 (by decide +kernel) rfl, mV_MX7_numberAt, by decide⟩
theorem lf_8_49 : LF 8 49 (0, MX7_placeOf) := ⟨mB_MX7_placeOf, TB_in 906 (by decide +kernel) rfl, mV_MX7_placeOf, by decide⟩
theorem lf_8_52 : LF 8 52 (2, MX9_within) := ⟨mB_MX9_within, ⟨"SieveHouse", NW_in 907 (by decide +kernel) rfl⟩, mS_MX9_within, by decide⟩
theorem lf_8_56 : LF 8 56 (1, MX8_width) := ⟨mB_MX8_width, TB_in 915 (by decide +kernel) rfl, mS_MX8_width, by decide⟩
theorem lf_8_60 : LF 8 60 (9, MJ9_min_7cf53) := ⟨TB_in 947 (by decide +kernel) rfl, rfl⟩
theorem lf_8_65 : LF 8 65 (10, MJ9_max_7cf53) := ⟨TB_in 950 (by decide +kernel) rfl, rfl⟩
theorem lf_8_68 : LF 8 68 (1, MX8_mirrorLength) := ⟨mB_MX8_mirrorLength, TB_in 951 (by decide +kernel) rfl, mS_MX8_mirrorLength, by decide⟩
theorem lF_8 : ∀ q ∈ lkT 8, LF 8 q.1 q.2 := List.forall_mem_cons.mpr ⟨lf_8_15, List.forall_mem_cons.mpr ⟨lf_8_19, List.forall_mem_cons.mpr ⟨lf_8_26, List.forall_mem_cons.mpr ⟨lf_8_30, List.forall_mem_cons.mpr ⟨lf_8_34, List.forall_mem_cons.mpr ⟨lf_8_38, List.forall_mem_cons.mpr ⟨lf_8_46, List.forall_mem_cons.mpr ⟨lf_8_49, List.forall_mem_cons.mpr ⟨lf_8_52, List.forall_mem_cons.mpr ⟨lf_8_56, List.forall_mem_cons.mpr ⟨lf_8_60, List.forall_mem_cons.mpr ⟨lf_8_65, List.forall_mem_cons.mpr ⟨lf_8_68, fun _ h => absurd h List.not_mem_nil⟩⟩⟩⟩⟩⟩⟩⟩⟩⟩⟩⟩⟩
theorem lf_9_11 : LF 9 11 (3, MX5_init) := ⟨mB_MX5_init, TB_in 93 (by decide +kernel) rfl, mC_MX5_init, by decide⟩
theorem lf_9_18 : LF 9 18 (3, MX6_init) := ⟨mB_MX6_init, TB_in 234 (by decide +kernel) rfl, mC_MX6_init, by decide⟩
theorem lf_9_25 : LF 9 25 (4, MX4_init) := ⟨mB_MX4_init, ⟨"SieveHouse", NW_in 272 (by decide +kernel) rfl⟩, mC_MX4_init, by decide⟩
theorem lf_9_32 : LF 9 32 (4, MX7_init) := ⟨mB_MX7_init, ⟨"SieveHouse", NW_in 286 (by decide +kernel) rfl⟩, mC_MX7_init, by decide⟩
theorem lf_9_45 : LF 9 45 (0, MX5_append) := ⟨mB_MX5_append, TB_in 314 (by decide +kernel) rfl, mV_MX5_append, by decide⟩
theorem lf_9_52 : LF 9 52 (0, MX9_fail) := ⟨mB_MX9_fail, TB_in 329 (by decide +kernel) rfl, mV_MX9_fail, by decide⟩
theorem lf_9_56 : LF 9 56 (0, MX5_readText) := ⟨mB_MX5_readText, TB_in 333 (by decide +kernel) rfl, mV_MX5_readText, by decide⟩
theorem lf_9_60 : LF 9 60 (0, MX6_takeOver) := ⟨mB_MX6_takeOver, TB_in 507 (by decide +kernel) rfl, mV_MX6_takeOver, by decide⟩
theorem lf_9_67 : LF 9 67 (0, MX9_succeed) := ⟨mB_MX9_succeed, TB_in 534 (by decide +kernel) rfl, mV_MX9_succeed, by decide⟩
theorem lf_9_76 : LF 9 76 (1, MX9_within) := ⟨mB_MX9_within, TB_in 547 (by decide +kernel) rfl, mS_MX9_within, by decide⟩
theorem lf_9_86 : LF 9 86 (0, MX6_sieveAt) := ⟨mB_MX6_sieveAt, TB_in 552 (by decide +kernel) rfl, mV_MX6_sieveAt, by decide⟩
theorem lf_9_90 : LF 9 90 (0, MX7_property) := ⟨mB_MX7_property, TB_in 553 (by decide +kernel) rfl, mV_MX7_property, by decide⟩
theorem lf_9_93 : LF 9 93 (0, MX7_nextGap) := ⟨mB_MX7_nextGap, TB_in 586 (by decide +kernel) rfl, mV_MX7_nextGap, by decide⟩
theorem lf_9_97 : LF 9 97 (0, MX6_keepAct) := ⟨mB_MX6_keepAct, TB_in 587 (by decide +kernel) rfl, mV_MX6_keepAct, by decide⟩
theorem lf_9_101 : LF 9 101 (0, MX7_sweep) := ⟨mB_MX7_sweep, TB_in 597 (by decide +kernel) rfl, mV_MX7_sweep, by decide⟩
theorem lf_9_104 : LF 9 104 (0, MX7_sweepAtMost) := ⟨mB_MX7_sweepAtMost, TB_in 609 (by decide +kernel) rfl, mV_MX7_sweepAtMost, by decide⟩
theorem lf_9_107 : LF 9 107 (1, MX3_ofRound) := ⟨mB_MX3_ofRound, TB_in 618 (by decide +kernel) rfl, mS_MX3_ofRound, by decide⟩
theorem lf_9_113 : LF 9 113 (0, MX9_answer) := ⟨mB_MX9_answer, TB_in 633 (by decide +kernel) rfl, mV_MX9_answer, by decide⟩
theorem lf_9_116 : LF 9 116 (0, MX7_placeOf) := ⟨mB_MX7_placeOf, TB_in 641 (by decide +kernel) rfl, mV_MX7_placeOf, by decide⟩
theorem lf_9_122 : LF 9 122 (0, MX7_takeOut) := ⟨mB_MX7_takeOut, TB_in 657 (by decide +kernel) rfl, mV_MX7_takeOut, by decide⟩
theorem lf_9_129 : LF 9 129 (0, MX7_resize) := ⟨mB_MX7_resize, TB_in 669 (by decide +kernel) rfl, mV_MX7_resize, by decide⟩
theorem lf_9_132 : LF 9 132 (0, MX6_add) := ⟨mB_MX6_add, TB_in 678 (by decide +kernel) rfl, mV_MX6_add, by decide⟩
theorem lf_9_136 : LF 9 136 (0, MX7_set) := ⟨mB_MX7_set, TB_in 683 (by decide +kernel) rfl, mV_MX7_set, by decide⟩
theorem lf_9_140 : LF 9 140 (0, MX6_remove) := ⟨mB_MX6_remove, TB_in 688 (by decide +kernel) rfl, mV_MX6_remove, by decide⟩
theorem lf_9_143 : LF 9 143 (0, MX6_goBack) := ⟨mB_MX6_goBack, TB_in 696 (by decide +kernel) rfl, mV_MX6_goBack, by decide⟩
theorem lf_9_146 : LF 9 146 (0, MX7_numberAt) := ⟨mB_MX7_numberAt, TB_in 708 (by decide +kernel) rfl, mV_MX7_numberAt, by decide⟩
theorem lf_9_149 : LF 9 149 (1, MX3_ofStruck) := ⟨mB_MX3_ofStruck, TB_in 717 (by decide +kernel) rfl, mS_MX3_ofStruck, by decide⟩
theorem lf_9_152 : LF 9 152 (1, MX3_ledBack) := ⟨mB_MX3_ledBack, TB_in 729 (by decide +kernel) rfl, mS_MX3_ledBack, by decide⟩
theorem lf_9_156 : LF 9 156 (1, MX3_ledOn) := ⟨mB_MX3_ledOn, TB_in 739 (by decide +kernel) rfl, mS_MX3_ledOn, by decide⟩
theorem lf_9_159 : LF 9 159 (0, MX9_finishTrial) := ⟨mB_MX9_finishTrial, TB_in 746 (by decide +kernel) rfl, mV_MX9_finishTrial, by decide⟩
theorem lf_9_163 : LF 9 163 (0, MX7_takeOver) := ⟨mB_MX7_takeOver, TB_in 750 (by decide +kernel) rfl, mV_MX7_takeOver, by decide⟩
theorem lf_9_165 : LF 9 165 (0, MX7_sweepTill) := ⟨mB_MX7_sweepTill, TB_in 755 (by decide +kernel) rfl, mV_MX7_sweepTill, by decide⟩
theorem lf_9_168 : LF 9 168 (1, MX3_isTouchedBetweenRounds) := ⟨mB_MX3_isTouchedBetweenRounds, TB_in 763 (by decide +kernel) rfl, mS_MX3_isTouchedBetweenRounds, by decide⟩
theorem lf_9_175 : LF 9 175 (1, MX3_struckNumber) := ⟨mB_MX3_struckNumber, TB_in 770 (by decide +kernel) rfl, mS_MX3_struckNumber, by decide⟩
theorem lf_9_179 : LF 9 179 (0, MX7_countUpTo) := ⟨mB_MX7_countUpTo, TB_in 777 (by decide +kernel) rfl, mV_MX7_countUpTo, by decide⟩
theorem lf_9_182 : LF 9 182 (0, MX7_gapAt) := ⟨mB_MX7_gapAt, TB_in 782 (by decide +kernel) rfl, mV_MX7_gapAt, by decide⟩
theorem lf_9_185 : LF 9 185 (1, MX8_unlikeGaps) := ⟨mB_MX8_unlikeGaps, TB_in 790 (by decide +kernel) rfl, mS_MX8_unlikeGaps, by decide⟩
theorem lf_9_191 : LF 9 191 (1, MX8_placeOfGreatest) := ⟨mB_MX8_placeOfGreatest, TB_in 805 (by decide +kernel) rfl, mS_MX8_placeOfGreatest, by decide⟩
theorem lf_9_195 : LF 9 195 (1, MX8_countGaps) := ⟨mB_MX8_countGaps, TB_in 808 (by decide +kernel) rfl, mS_MX8_countGaps, by decide⟩
theorem lf_9_198 : LF 9 198 (1, MX8_recordPlace) := ⟨mB_MX8_recordPlace, TB_in 819 (by decide +kernel) rfl, mS_MX8_recordPlace, by decide⟩
theorem lf_9_201 : LF 9 201 (1, MX0_pairsBy) := ⟨mB_MX0_pairsBy, TB_in 826 (by decide +kernel) rfl, mS_MX0_pairsBy, by decide⟩
theorem lf_9_206 : LF 9 206 (1, MX0_triplesBy) := ⟨mB_MX0_triplesBy, TB_in 835 (by decide +kernel) rfl, mS_MX0_triplesBy, by decide⟩
theorem lf_9_209 : LF 9 209 (1, MX0_waysToSum) := ⟨mB_MX0_waysToSum, TB_in 842 (by decide +kernel) rfl, mS_MX0_waysToSum, by decide⟩
theorem lf_9_212 : LF 9 212 (1, MX0_firstNoSum) := ⟨mB_MX0_firstNoSum, TB_in 849 (by decide +kernel) rfl, mS_MX0_firstNoSum, by decide⟩
theorem lf_9_215 : LF 9 215 (1, MX8_longestRunPlace) := ⟨mB_MX8_longestRunPlace, TB_in 862 (by decide +kernel) rfl, mS_MX8_longestRunPlace, by decide⟩
theorem lf_9_218 : LF 9 218 (1, MX8_runEnd) := ⟨mB_MX8_runEnd, TB_in 865 (by decide +kernel) rfl, mS_MX8_runEnd, by decide⟩
theorem lf_9_221 : LF 9 221 (1, MX0_longestProgressionStart) := ⟨mB_MX0_longestProgressionStart, TB_in 872 (by decide +kernel) rfl, mS_MX0_longestProgressionStart, by decide⟩
theorem lf_9_224 : LF 9 224 (1, MX0_progressionLength) := ⟨mB_MX0_progressionLength, TB_in 878 (by decide +kernel) rfl, mS_MX0_progressionLength, by decide⟩
theorem lf_9_227 : LF 9 227 (1, MX0_restsBy) := ⟨mB_MX0_restsBy, TB_in 883 (by decide +kernel) rfl, mS_MX0_restsBy, by decide⟩
theorem lf_9_231 : LF 9 231 (1, MX8_struckFromRing) := ⟨mB_MX8_struckFromRing, TB_in 894 (by decide +kernel) rfl, mS_MX8_struckFromRing, by decide⟩
theorem lf_9_234 : LF 9 234 (1, MX8_chainFrom) := ⟨mB_MX8_chainFrom, TB_in 903 (by decide +kernel) rfl, mS_MX8_chainFrom, by decide⟩
theorem lf_9_237 : LF 9 237 (1, MX8_closestPlace) := ⟨mB_MX8_closestPlace, TB_in 912 (by decide +kernel) rfl, mS_MX8_closestPlace, by decide⟩
theorem lf_9_240 : LF 9 240 (1, MX8_width) := ⟨mB_MX8_width, TB_in 918 (by decide +kernel) rfl, mS_MX8_width, by decide⟩
theorem lf_9_243 : LF 9 243 (1, MX9_quotient) := ⟨mB_MX9_quotient, TB_in 923 (by decide +kernel) rfl, mS_MX9_quotient, by decide⟩
theorem lf_9_247 : LF 9 247 (0, MX7_countLeft) := ⟨mB_MX7_countLeft, TB_in 924 (by decide +kernel) rfl, mV_MX7_countLeft, by decide⟩
theorem lf_9_250 : LF 9 250 (0, MX7_firstNumber) := ⟨mB_MX7_firstNumber, TB_in 932 (by decide +kernel) rfl, mV_MX7_firstNumber, by decide⟩
theorem lf_9_253 : LF 9 253 (1, MX8_countPattern) := ⟨mB_MX8_countPattern, TB_in 937 (by decide +kernel) rfl, mS_MX8_countPattern, by decide⟩
theorem lf_9_256 : LF 9 256 (1, MX8_longestMirror) := ⟨mB_MX8_longestMirror, TB_in 944 (by decide +kernel) rfl, mS_MX8_longestMirror, by decide⟩
theorem lf_9_260 : LF 9 260 (1, MX8_commonestGap) := ⟨mB_MX8_commonestGap, TB_in 962 (by decide +kernel) rfl, mS_MX8_commonestGap, by decide⟩
theorem lf_9_263 : LF 9 263 (1, MX1_countCommon) := ⟨mB_MX1_countCommon, TB_in 969 (by decide +kernel) rfl, mS_MX1_countCommon, by decide⟩
theorem lf_9_269 : LF 9 269 (1, MX1_leastInOneAlone) := ⟨mB_MX1_leastInOneAlone, TB_in 974 (by decide +kernel) rfl, mS_MX1_leastInOneAlone, by decide⟩
theorem lf_9_272 : LF 9 272 (1, MX1_leading) := ⟨mB_MX1_leading, TB_in 985 (by decide +kernel) rfl, mS_MX1_leading, by decide⟩
theorem lf_9_276 : LF 9 276 (1, MX1_likeRounds) := ⟨mB_MX1_likeRounds, TB_in 999 (by decide +kernel) rfl, mS_MX1_likeRounds, by decide⟩
theorem lf_9_279 : LF 9 279 (1, MX1_pickedByPlace) := ⟨mB_MX1_pickedByPlace, TB_in 1007 (by decide +kernel) rfl, mS_MX1_pickedByPlace, by decide⟩
theorem lf_9_282 : LF 9 282 (0, MX6_listAt) := ⟨mB_MX6_listAt, TB_in 1014 (by decide +kernel) rfl, mV_MX6_listAt, by decide⟩
theorem lf_9_289 : LF 9 289 (0, MX2_numberAt) := ⟨mB_MX2_numberAt, TB_in 1015 (by decide +kernel) rfl, mV_MX2_numberAt, by decide⟩
theorem lf_9_290 : LF 9 290 (0, MX2_countIn) := ⟨mB_MX2_countIn, TB_in 1025 (by decide +kernel) rfl, mV_MX2_countIn, by decide⟩
theorem lf_9_293 : LF 9 293 (0, MX2_firstNotIn) := ⟨mB_MX2_firstNotIn, TB_in 1031 (by decide +kernel) rfl, mV_MX2_firstNotIn, by decide⟩
theorem lf_9_296 : LF 9 296 (0, MX2_standsTogetherIn) := ⟨mB_MX2_standsTogetherIn, TB_in 1035 (by decide +kernel) rfl, mV_MX2_standsTogetherIn, by decide⟩
theorem lf_9_299 : LF 9 299 (1, MX1_countMeetings) := ⟨mB_MX1_countMeetings, TB_in 1049 (by decide +kernel) rfl, mS_MX1_countMeetings, by decide⟩
theorem lf_9_303 : LF 9 303 (1, MX1_countLikePlaces) := ⟨mB_MX1_countLikePlaces, TB_in 1056 (by decide +kernel) rfl, mS_MX1_countLikePlaces, by decide⟩
theorem lf_9_306 : LF 9 306 (1, MX1_firstUnlikePlace) := ⟨mB_MX1_firstUnlikePlace, TB_in 1059 (by decide +kernel) rfl, mS_MX1_firstUnlikePlace, by decide⟩
theorem lf_9_309 : LF 9 309 (0, MX4_write) := ⟨mB_MX4_write, TB_in 1066 (by decide +kernel) rfl, mV_MX4_write, by decide⟩
theorem lf_9_318 : LF 9 318 (1, MX9_at) := ⟨mB_MX9_at, TB_in 1086 (by decide +kernel) rfl, mS_MX9_at, by decide⟩
theorem lF_9 : ∀ q ∈ lkT 9, LF 9 q.1 q.2 := List.forall_mem_cons.mpr ⟨lf_9_11, List.forall_mem_cons.mpr ⟨lf_9_18, List.forall_mem_cons.mpr ⟨lf_9_25, List.forall_mem_cons.mpr ⟨lf_9_32, List.forall_mem_cons.mpr ⟨lf_9_45, List.forall_mem_cons.mpr ⟨lf_9_52, List.forall_mem_cons.mpr ⟨lf_9_56, List.forall_mem_cons.mpr ⟨lf_9_60, List.forall_mem_cons.mpr ⟨lf_9_67, List.forall_mem_cons.mpr ⟨lf_9_76, List.forall_mem_cons.mpr ⟨lf_9_86, List.forall_mem_cons.mpr ⟨lf_9_90, List.forall_mem_cons.mpr ⟨lf_9_93, List.forall_mem_cons.mpr ⟨lf_9_97, List.forall_mem_cons.mpr ⟨lf_9_101, List.forall_mem_cons.mpr ⟨lf_9_104, List.forall_mem_cons.mpr ⟨lf_9_107, List.forall_mem_cons.mpr ⟨lf_9_113, List.forall_mem_cons.mpr ⟨lf_9_116, List.forall_mem_cons.mpr ⟨lf_9_122, List.forall_mem_cons.mpr ⟨lf_9_129, List.forall_mem_cons.mpr ⟨lf_9_132, List.forall_mem_cons.mpr ⟨lf_9_136, List.forall_mem_cons.mpr ⟨lf_9_140, List.forall_mem_cons.mpr ⟨lf_9_143, List.forall_mem_cons.mpr ⟨lf_9_146, List.forall_mem_cons.mpr ⟨lf_9_149, List.forall_mem_cons.mpr ⟨lf_9_152, List.forall_mem_cons.mpr ⟨lf_9_156, List.forall_mem_cons.mpr ⟨lf_9_159, List.forall_mem_cons.mpr ⟨lf_9_163, List.forall_mem_cons.mpr ⟨lf_9_165, List.forall_mem_cons.mpr ⟨lf_9_168, List.forall_mem_cons.mpr ⟨lf_9_175, List.forall_mem_cons.mpr ⟨lf_9_179, List.forall_mem_cons.mpr ⟨lf_9_182, List.forall_mem_cons.mpr ⟨lf_9_185, List.forall_mem_cons.mpr ⟨lf_9_191, List.forall_mem_cons.mpr ⟨lf_9_195, List.forall_mem_cons.mpr ⟨lf_9_198, List.forall_mem_cons.mpr ⟨lf_9_201, List.forall_mem_cons.mpr ⟨lf_9_206, List.forall_mem_cons.mpr ⟨lf_9_209, List.forall_mem_cons.mpr ⟨lf_9_212, List.forall_mem_cons.mpr ⟨lf_9_215, List.forall_mem_cons.mpr ⟨lf_9_218, List.forall_mem_cons.mpr ⟨lf_9_221, List.forall_mem_cons.mpr ⟨lf_9_224, List.forall_mem_cons.mpr ⟨lf_9_227, List.forall_mem_cons.mpr ⟨lf_9_231, List.forall_mem_cons.mpr ⟨lf_9_234, List.forall_mem_cons.mpr ⟨lf_9_237, List.forall_mem_cons.mpr ⟨lf_9_240, List.forall_mem_cons.mpr ⟨lf_9_243, List.forall_mem_cons.mpr ⟨lf_9_247, List.forall_mem_cons.mpr ⟨lf_9_250, List.forall_mem_cons.mpr ⟨lf_9_253, List.forall_mem_cons.mpr ⟨lf_9_256, List.forall_mem_cons.mpr ⟨lf_9_260, List.forall_mem_cons.mpr ⟨lf_9_263, List.forall_mem_cons.mpr ⟨lf_9_269, List.forall_mem_cons.mpr ⟨lf_9_272, List.forall_mem_cons.mpr ⟨lf_9_276, List.forall_mem_cons.mpr ⟨lf_9_279, List.forall_mem_cons.mpr ⟨lf_9_282, List.forall_mem_cons.mpr ⟨lf_9_289, List.forall_mem_cons.mpr ⟨lf_9_290, List.forall_mem_cons.mpr ⟨lf_9_293, List.forall_mem_cons.mpr ⟨lf_9_296, List.forall_mem_cons.mpr ⟨lf_9_299, List.forall_mem_cons.mpr ⟨lf_9_303, List.forall_mem_cons.mpr ⟨lf_9_306, List.forall_mem_cons.mpr ⟨lf_9_309, List.forall_mem_cons.mpr ⟨lf_9_318, fun _ h => absurd h List.not_mem_nil⟩⟩⟩⟩⟩⟩⟩⟩⟩⟩⟩⟩⟩⟩⟩⟩⟩⟩⟩⟩⟩⟩⟩⟩⟩⟩⟩⟩⟩⟩⟩⟩⟩⟩⟩⟩⟩⟩⟩⟩⟩⟩⟩⟩⟩⟩⟩⟩⟩⟩⟩⟩⟩⟩⟩⟩⟩⟩⟩⟩⟩⟩⟩⟩⟩⟩⟩⟩⟩⟩⟩⟩⟩⟩
theorem lf_10_93 : LF 10 93 (1, MX10_isIn) := ⟨mB_MX10_isIn, TB_in 1220 (by decide +kernel) rfl, mS_MX10_isIn, by decide⟩
theorem lf_10_97 : LF 10 97 (0, MX10_of) := ⟨mB_MX10_of, TB_in 1244 (by decide +kernel) rfl, mV_MX10_of, by decide⟩
theorem lf_10_101 : LF 10 101 (0, MX10_indexOf) := ⟨mB_MX10_indexOf, TB_in 1301 (by decide +kernel) rfl, mV_MX10_indexOf, by decide⟩
theorem lf_10_104 : LF 10 104 (0, MX10_goneAt) := ⟨mB_MX10_goneAt, TB_in 1248 (by decide +kernel) rfl, mV_MX10_goneAt, by decide⟩
theorem lf_10_110 : LF 10 110 (0, MX10_lays) := ⟨mB_MX10_lays, TB_in 1240 (by decide +kernel) rfl, mV_MX10_lays, by decide⟩
theorem lf_10_114 : LF 10 114 (0, MX10_numberAt) := ⟨mB_MX10_numberAt, TB_in 1264 (by decide +kernel) rfl, mV_MX10_numberAt, by decide⟩
theorem lf_10_117 : LF 10 117 (0, MX10_at) := ⟨mB_MX10_at, TB_in 1260 (by decide +kernel) rfl, mV_MX10_at, by decide⟩
theorem lf_10_120 : LF 10 120 (0, MX10_laysNow) := ⟨mB_MX10_laysNow, TB_in 1236 (by decide +kernel) rfl, mV_MX10_laysNow, by decide⟩
theorem lf_10_124 : LF 10 124 (0, MX10_gapOf) := ⟨mB_MX10_gapOf, TB_in 1256 (by decide +kernel) rfl, mV_MX10_gapOf, by decide⟩
theorem lf_10_127 : LF 10 127 (0, MX10_strikes) := ⟨mB_MX10_strikes, TB_in 1268 (by decide +kernel) rfl, mV_MX10_strikes, by decide⟩
theorem lf_10_131 : LF 10 131 (0, MX10_nextGap) := ⟨mB_MX10_nextGap, TB_in 1252 (by decide +kernel) rfl, mV_MX10_nextGap, by decide⟩
theorem lf_10_135 : LF 10 135 (0, MX10_rounds) := ⟨mB_MX10_rounds, TB_in 1281 (by decide +kernel) rfl, mV_MX10_rounds, by decide⟩
theorem lf_10_140 : LF 10 140 (0, MX10_is) := ⟨mB_MX10_is, TB_in 1223 (by decide +kernel) rfl, mV_MX10_is, by decide⟩
theorem lf_10_152 : LF 10 152 (0, MX10_isSieve) := ⟨mB_MX10_isSieve, TB_in 1232 (by decide +kernel) rfl, mV_MX10_isSieve, by decide⟩
theorem lf_10_156 : LF 10 156 (0, MX10_remembers) := ⟨mB_MX10_remembers, TB_in 1276 (by decide +kernel) rfl, mV_MX10_remembers, by decide⟩
theorem lf_10_159 : LF 10 159 (0, MX10_roundsAll) := ⟨mB_MX10_roundsAll, TB_in 1289 (by decide +kernel) rfl, mV_MX10_roundsAll, by decide⟩
theorem lf_10_162 : LF 10 162 (0, MX10_isThere) := ⟨mB_MX10_isThere, TB_in 1297 (by decide +kernel) rfl, mV_MX10_isThere, by decide⟩
theorem lf_10_166 : LF 10 166 (0, MX10_refuse) := ⟨mB_MX10_refuse, TB_in 1305 (by decide +kernel) rfl, mV_MX10_refuse, by decide⟩
theorem lf_10_171 : LF 10 171 (0, MX10_anew) := ⟨mB_MX10_anew, TB_in 1314 (by decide +kernel) rfl, mV_MX10_anew, by decide⟩
theorem lf_10_180 : LF 10 180 (0, MX10_when) := ⟨mB_MX10_when, TB_in 1345 (by decide +kernel) rfl, mV_MX10_when, by decide⟩
theorem lf_10_183 : LF 10 183 (0, MX10_isRound) := ⟨mB_MX10_isRound, TB_in 1337 (by decide +kernel) rfl, mV_MX10_isRound, by decide⟩
theorem lf_10_186 : LF 10 186 (0, MX10_struckBy) := ⟨mB_MX10_struckBy, TB_in 1341 (by decide +kernel) rfl, mV_MX10_struckBy, by decide⟩
theorem lf_10_190 : LF 10 190 (0, MX10_whyPlace) := ⟨mB_MX10_whyPlace, TB_in 1353 (by decide +kernel) rfl, mV_MX10_whyPlace, by decide⟩
theorem lf_10_194 : LF 10 194 (0, MX10_placeOf) := ⟨mB_MX10_placeOf, TB_in 1361 (by decide +kernel) rfl, mV_MX10_placeOf, by decide⟩
theorem lf_10_197 : LF 10 197 (0, MX10_roundAt) := ⟨mB_MX10_roundAt, TB_in 1369 (by decide +kernel) rfl, mV_MX10_roundAt, by decide⟩
theorem lf_10_200 : LF 10 200 (0, MX10_triesAside) := ⟨mB_MX10_triesAside, TB_in 1385 (by decide +kernel) rfl, mV_MX10_triesAside, by decide⟩
theorem lf_10_203 : LF 10 203 (0, MX10_isBetween) := ⟨mB_MX10_isBetween, TB_in 1397 (by decide +kernel) rfl, mV_MX10_isBetween, by decide⟩
theorem lf_10_206 : LF 10 206 (0, MX10_handUpTo) := ⟨mB_MX10_handUpTo, TB_in 1409 (by decide +kernel) rfl, mV_MX10_handUpTo, by decide⟩
theorem lf_10_209 : LF 10 209 (0, MX10_gapAt) := ⟨mB_MX10_gapAt, TB_in 1417 (by decide +kernel) rfl, mV_MX10_gapAt, by decide⟩
theorem lf_10_212 : LF 10 212 (0, MX10_gapsBy) := ⟨mB_MX10_gapsBy, TB_in 1425 (by decide +kernel) rfl, mV_MX10_gapsBy, by decide⟩
theorem lf_10_215 : LF 10 215 (0, MX10_unlikeGaps) := ⟨mB_MX10_unlikeGaps, TB_in 1429 (by decide +kernel) rfl, mV_MX10_unlikeGaps, by decide⟩
theorem lf_10_218 : LF 10 218 (0, MX10_isMirror) := ⟨mB_MX10_isMirror, TB_in 1453 (by decide +kernel) rfl, mV_MX10_isMirror, by decide⟩
theorem lf_10_222 : LF 10 222 (0, MX10_isBeyond) := ⟨mB_MX10_isBeyond, TB_in 1461 (by decide +kernel) rfl, mV_MX10_isBeyond, by decide⟩
theorem lf_10_226 : LF 10 226 (0, MX10_waysTo) := ⟨mB_MX10_waysTo, TB_in 1474 (by decide +kernel) rfl, mV_MX10_waysTo, by decide⟩
theorem lf_10_229 : LF 10 229 (0, MX10_runFrom) := ⟨mB_MX10_runFrom, TB_in 1486 (by decide +kernel) rfl, mV_MX10_runFrom, by decide⟩
theorem lf_10_232 : LF 10 232 (0, MX10_stepsFrom) := ⟨mB_MX10_stepsFrom, TB_in 1494 (by decide +kernel) rfl, mV_MX10_stepsFrom, by decide⟩
theorem lf_10_238 : LF 10 238 (0, MX10_restMany) := ⟨mB_MX10_restMany, TB_in 1503 (by decide +kernel) rfl, mV_MX10_restMany, by decide⟩
theorem lf_10_241 : LF 10 241 (0, MX10_whyTwo) := ⟨mB_MX10_whyTwo, TB_in 1535 (by decide +kernel) rfl, mV_MX10_whyTwo, by decide⟩
theorem lf_10_245 : LF 10 245 (0, MX10_inBoth) := ⟨mB_MX10_inBoth, TB_in 1539 (by decide +kernel) rfl, mV_MX10_inBoth, by decide⟩
theorem lf_10_248 : LF 10 248 (0, MX10_manyOf) := ⟨mB_MX10_manyOf, TB_in 1543 (by decide +kernel) rfl, mV_MX10_manyOf, by decide⟩
theorem lf_10_251 : LF 10 251 (0, MX10_leastAlone) := ⟨mB_MX10_leastAlone, TB_in 1547 (by decide +kernel) rfl, mV_MX10_leastAlone, by decide⟩
theorem lf_10_256 : LF 10 256 (0, MX10_lastOf) := ⟨mB_MX10_lastOf, TB_in 1556 (by decide +kernel) rfl, mV_MX10_lastOf, by decide⟩
theorem lf_10_261 : LF 10 261 (0, MX10_isList) := ⟨mB_MX10_isList, TB_in 1581 (by decide +kernel) rfl, mV_MX10_isList, by decide⟩
theorem lf_10_264 : LF 10 264 (0, MX10_listMany) := ⟨mB_MX10_listMany, TB_in 1585 (by decide +kernel) rfl, mV_MX10_listMany, by decide⟩
theorem lf_10_267 : LF 10 267 (0, MX10_listAt) := ⟨mB_MX10_listAt, TB_in 1589 (by decide +kernel) rfl, mV_MX10_listAt, by decide⟩
theorem lf_10_270 : LF 10 270 (0, MX10_isBeside) := ⟨mB_MX10_isBeside, TB_in 1597 (by decide +kernel) rfl, mV_MX10_isBeside, by decide⟩
theorem lf_10_276 : LF 10 276 (0, MX10_says) := ⟨mB_MX10_says, TB_in 1609 (by decide +kernel) rfl, mV_MX10_says, by decide⟩
theorem lf_10_279 : LF 10 279 (0, MX10_saysNumber) := ⟨mB_MX10_saysNumber, TB_in 1613 (by decide +kernel) rfl, mV_MX10_saysNumber, by decide⟩
theorem lf_10_285 : LF 10 285 (0, MX10_feeds) := ⟨mB_MX10_feeds, TB_in 1625 (by decide +kernel) rfl, mV_MX10_feeds, by decide⟩
theorem lf_10_297 : LF 10 297 (0, MX10_isOf) := ⟨mB_MX10_isOf, TB_in 1637 (by decide +kernel) rfl, mV_MX10_isOf, by decide⟩
theorem lf_10_320 : LF 10 320 (0, MX10_good) := ⟨mB_MX10_good, TB_in 1643 (by decide +kernel) rfl, mV_MX10_good, by decide⟩
theorem lf_10_324 : LF 10 324 (0, MX10_reads) := ⟨mB_MX10_reads, TB_in 1633 (by decide +kernel) rfl, mV_MX10_reads, by decide⟩
theorem lf_10_327 : LF 10 327 (0, MX10_must) := ⟨mB_MX10_must, TB_in 1655 (by decide +kernel) rfl, mV_MX10_must, by decide⟩
theorem lf_10_331 : LF 10 331 (0, MX10_goesOn) := ⟨mB_MX10_goesOn, TB_in 1659 (by decide +kernel) rfl, mV_MX10_goesOn, by decide⟩
theorem lf_10_334 : LF 10 334 (0, MX10_isName) := ⟨mB_MX10_isName, TB_in 1667 (by decide +kernel) rfl, mV_MX10_isName, by decide⟩
theorem lf_10_340 : LF 10 340 (0, MX10_isWord) := ⟨mB_MX10_isWord, TB_in 1647 (by decide +kernel) rfl, mV_MX10_isWord, by decide⟩
theorem lf_10_343 : LF 10 343 (0, MX10_takes) := ⟨mB_MX10_takes, TB_in 1671 (by decide +kernel) rfl, mV_MX10_takes, by decide⟩
theorem lf_10_347 : LF 10 347 (0, MX10_takesNumber) := ⟨mB_MX10_takesNumber, TB_in 1675 (by decide +kernel) rfl, mV_MX10_takesNumber, by decide⟩
theorem lf_10_353 : LF 10 353 (0, MX10_takesName) := ⟨mB_MX10_takesName, TB_in 1663 (by decide +kernel) rfl, mV_MX10_takesName, by decide⟩
theorem lf_10_356 : LF 10 356 (0, MX10_readsLaw) := ⟨mB_MX10_readsLaw, TB_in 1679 (by decide +kernel) rfl, mV_MX10_readsLaw, by decide⟩
theorem lf_10_364 : LF 10 364 (0, MX10_readsSieve) := ⟨mB_MX10_readsSieve, TB_in 1651 (by decide +kernel) rfl, mV_MX10_readsSieve, by decide⟩
theorem lf_10_367 : LF 10 367 (0, MX10_readsList) := ⟨mB_MX10_readsList, TB_in 1683 (by decide +kernel) rfl, mV_MX10_readsList, by decide⟩
theorem lF_10 : ∀ q ∈ lkT 10, LF 10 q.1 q.2 := List.forall_mem_cons.mpr ⟨lf_10_93, List.forall_mem_cons.mpr ⟨lf_10_97, List.forall_mem_cons.mpr ⟨lf_10_101, List.forall_mem_cons.mpr ⟨lf_10_104, List.forall_mem_cons.mpr ⟨lf_10_110, List.forall_mem_cons.mpr ⟨lf_10_114, List.forall_mem_cons.mpr ⟨lf_10_117, List.forall_mem_cons.mpr ⟨lf_10_120, List.forall_mem_cons.mpr ⟨lf_10_124, List.forall_mem_cons.mpr ⟨lf_10_127, List.forall_mem_cons.mpr ⟨lf_10_131, List.forall_mem_cons.mpr ⟨lf_10_135, List.forall_mem_cons.mpr ⟨lf_10_140, List.forall_mem_cons.mpr ⟨lf_10_152, List.forall_mem_cons.mpr ⟨lf_10_156, List.forall_mem_cons.mpr ⟨lf_10_159, List.forall_mem_cons.mpr ⟨lf_10_162, List.forall_mem_cons.mpr ⟨lf_10_166, List.forall_mem_cons.mpr ⟨lf_10_171, List.forall_mem_cons.mpr ⟨lf_10_180, List.forall_mem_cons.mpr ⟨lf_10_183, List.forall_mem_cons.mpr ⟨lf_10_186, List.forall_mem_cons.mpr ⟨lf_10_190, List.forall_mem_cons.mpr ⟨lf_10_194, List.forall_mem_cons.mpr ⟨lf_10_197, List.forall_mem_cons.mpr ⟨lf_10_200, List.forall_mem_cons.mpr ⟨lf_10_203, List.forall_mem_cons.mpr ⟨lf_10_206, List.forall_mem_cons.mpr ⟨lf_10_209, List.forall_mem_cons.mpr ⟨lf_10_212, List.forall_mem_cons.mpr ⟨lf_10_215, List.forall_mem_cons.mpr ⟨lf_10_218, List.forall_mem_cons.mpr ⟨lf_10_222, List.forall_mem_cons.mpr ⟨lf_10_226, List.forall_mem_cons.mpr ⟨lf_10_229, List.forall_mem_cons.mpr ⟨lf_10_232, List.forall_mem_cons.mpr ⟨lf_10_238, List.forall_mem_cons.mpr ⟨lf_10_241, List.forall_mem_cons.mpr ⟨lf_10_245, List.forall_mem_cons.mpr ⟨lf_10_248, List.forall_mem_cons.mpr ⟨lf_10_251, List.forall_mem_cons.mpr ⟨lf_10_256, List.forall_mem_cons.mpr ⟨lf_10_261, List.forall_mem_cons.mpr ⟨lf_10_264, List.forall_mem_cons.mpr ⟨lf_10_267, List.forall_mem_cons.mpr ⟨lf_10_270, List.forall_mem_cons.mpr ⟨lf_10_276, List.forall_mem_cons.mpr ⟨lf_10_279, List.forall_mem_cons.mpr ⟨lf_10_285, List.forall_mem_cons.mpr ⟨lf_10_297, List.forall_mem_cons.mpr ⟨lf_10_320, List.forall_mem_cons.mpr ⟨lf_10_324, List.forall_mem_cons.mpr ⟨lf_10_327, List.forall_mem_cons.mpr ⟨lf_10_331, List.forall_mem_cons.mpr ⟨lf_10_334, List.forall_mem_cons.mpr ⟨lf_10_340, List.forall_mem_cons.mpr ⟨lf_10_343, List.forall_mem_cons.mpr ⟨lf_10_347, List.forall_mem_cons.mpr ⟨lf_10_353, List.forall_mem_cons.mpr ⟨lf_10_356, List.forall_mem_cons.mpr ⟨lf_10_364, List.forall_mem_cons.mpr ⟨lf_10_367, fun _ h => absurd h List.not_mem_nil⟩⟩⟩⟩⟩⟩⟩⟩⟩⟩⟩⟩⟩⟩⟩⟩⟩⟩⟩⟩⟩⟩⟩⟩⟩⟩⟩⟩⟩⟩⟩⟩⟩⟩⟩⟩⟩⟩⟩⟩⟩⟩⟩⟩⟩⟩⟩⟩⟩⟩⟩⟩⟩⟩⟩⟩⟩⟩⟩⟩⟩⟩
theorem lf_11_9 : LF 11 9 (3, MX9_init) := ⟨mB_MX9_init, TB_in 85 (by decide +kernel) rfl, mC_MX9_init, by decide⟩
theorem lf_11_12 : LF 11 12 (3, MX10_init) := ⟨mB_MX10_init, TB_in 1089 (by decide +kernel) rfl, mC_MX10_init, by decide⟩
theorem lf_11_13 : LF 11 13 (0, MX9_status) := ⟨mB_MX9_status, TB_in 306 (by decide +kernel) rfl, mV_MX9_status, by decide⟩
theorem lf_11_17 : LF 11 17 (0, MX10_status) := ⟨mB_MX10_status, TB_in 1211 (by decide +kernel) rfl, mV_MX10_status, by decide⟩
theorem lf_11_18 : LF 11 18 (0, MX9_feed) := ⟨mB_MX9_feed, TB_in 310 (by decide +kernel) rfl, mV_MX9_feed, by decide⟩
theorem lf_11_22 : LF 11 22 (0, MX10_feed) := ⟨mB_MX10_feed, TB_in 1621 (by decide +kernel) rfl, mV_MX10_feed, by decide⟩
theorem lf_11_23 : LF 11 23 (0, MX9_load) := ⟨mB_MX9_load, TB_in 325 (by decide +kernel) rfl, mV_MX9_load, by decide⟩
theorem lf_11_27 : LF 11 27 (0, MX10_load) := ⟨mB_MX10_load, TB_in 1629 (by decide +kernel) rfl, mV_MX10_load, by decide⟩
theorem lf_11_28 : LF 11 28 (0, MX9_fault) := ⟨mB_MX9_fault, TB_in 539 (by decide +kernel) rfl, mV_MX9_fault, by decide⟩
theorem lf_11_31 : LF 11 31 (0, MX10_fault) := ⟨mB_MX10_fault, TB_in 1688 (by decide +kernel) rfl, mV_MX10_fault, by decide⟩
theorem lf_11_32 : LF 11 32 (0, MX9_many) := ⟨mB_MX9_many, TB_in 543 (by decide +kernel) rfl, mV_MX9_many, by decide⟩
theorem lf_11_35 : LF 11 35 (0, MX10_many) := ⟨mB_MX10_many, TB_in 1215 (by decide +kernel) rfl, mV_MX10_many, by decide⟩
theorem lf_11_36 : LF 11 36 (0, MX9_sieve) := ⟨mB_MX9_sieve, TB_in 548 (by decide +kernel) rfl, mV_MX9_sieve, by decide⟩
theorem lf_11_40 : LF 11 40 (0, MX10_sieve) := ⟨mB_MX10_sieve, TB_in 1227 (by decide +kernel) rfl, mV_MX10_sieve, by decide⟩
theorem lf_11_41 : LF 11 41 (0, MX9_round) := ⟨mB_MX9_round, TB_in 582 (by decide +kernel) rfl, mV_MX9_round, by decide⟩
theorem lf_11_44 : LF 11 44 (0, MX10_round) := ⟨mB_MX10_round, TB_in 1272 (by decide +kernel) rfl, mV_MX10_round, by decide⟩
theorem lf_11_45 : LF 11 45 (0, MX9_all) := ⟨mB_MX9_all, TB_in 605 (by decide +kernel) rfl, mV_MX9_all, by decide⟩
theorem lf_11_48 : LF 11 48 (0, MX10_all) := ⟨mB_MX10_all, TB_in 1285 (by decide +kernel) rfl, mV_MX10_all, by decide⟩
theorem lf_11_49 : LF 11 49 (0, MX9_told) := ⟨mB_MX9_told, TB_in 614 (by decide +kernel) rfl, mV_MX9_told, by decide⟩
theorem lf_11_53 : LF 11 53 (0, MX10_told) := ⟨mB_MX10_told, TB_in 1333 (by decide +kernel) rfl, mV_MX10_told, by decide⟩
theorem lf_11_54 : LF 11 54 (0, MX9_strike) := ⟨mB_MX9_strike, TB_in 637 (by decide +kernel) rfl, mV_MX9_strike, by decide⟩
theorem lf_11_57 : LF 11 57 (0, MX10_strike) := ⟨mB_MX10_strike, TB_in 1293 (by decide +kernel) rfl, mV_MX10_strike, by decide⟩
theorem lf_11_58 : LF 11 58 (0, MX9_longer) := ⟨mB_MX9_longer, TB_in 665 (by decide +kernel) rfl, mV_MX9_longer, by decide⟩
theorem lf_11_61 : LF 11 61 (0, MX10_longer) := ⟨mB_MX10_longer, TB_in 1309 (by decide +kernel) rfl, mV_MX10_longer, by decide⟩
theorem lf_11_62 : LF 11 62 (0, MX9_make) := ⟨mB_MX9_make, TB_in 674 (by decide +kernel) rfl, mV_MX9_make, by decide⟩
theorem lf_11_66 : LF 11 66 (0, MX10_make) := ⟨mB_MX10_make, TB_in 1318 (by decide +kernel) rfl, mV_MX10_make, by decide⟩
theorem lf_11_67 : LF 11 67 (0, MX9_drop) := ⟨mB_MX9_drop, TB_in 684 (by decide +kernel) rfl, mV_MX9_drop, by decide⟩
theorem lf_11_70 : LF 11 70 (0, MX10_drop) := ⟨mB_MX10_drop, TB_in 1325 (by decide +kernel) rfl, mV_MX10_drop, by decide⟩
theorem lf_11_71 : LF 11 71 (0, MX9_undo) := ⟨mB_MX9_undo, TB_in 692 (by decide +kernel) rfl, mV_MX9_undo, by decide⟩
theorem lf_11_74 : LF 11 74 (0, MX10_undo) := ⟨mB_MX10_undo, TB_in 1329 (by decide +kernel) rfl, mV_MX10_undo, by decide⟩
theorem lf_11_75 : LF 11 75 (0, MX9_number) := ⟨mB_MX9_number, TB_in 704 (by decide +kernel) rfl, mV_MX9_number, by decide⟩
theorem lf_11_78 : LF 11 78 (0, MX10_number) := ⟨mB_MX10_number, TB_in 1349 (by decide +kernel) rfl, mV_MX10_number, by decide⟩
theorem lf_11_79 : LF 11 79 (0, MX9_rank) := ⟨mB_MX9_rank, TB_in 709 (by decide +kernel) rfl, mV_MX9_rank, by decide⟩
theorem lf_11_82 : LF 11 82 (0, MX10_rank) := ⟨mB_MX10_rank, TB_in 1357 (by decide +kernel) rfl, mV_MX10_rank, by decide⟩
theorem lf_11_83 : LF 11 83 (0, MX9_fate) := ⟨mB_MX9_fate, TB_in 713 (by decide +kernel) rfl, mV_MX9_fate, by decide⟩
theorem lf_11_86 : LF 11 86 (0, MX10_fate) := ⟨mB_MX10_fate, TB_in 1365 (by decide +kernel) rfl, mV_MX10_fate, by decide⟩
theorem lf_11_87 : LF 11 87 (0, MX9_back) := ⟨mB_MX9_back, TB_in 725 (by decide +kernel) rfl, mV_MX9_back, by decide⟩
theorem lf_11_90 : LF 11 90 (0, MX10_back) := ⟨mB_MX10_back, TB_in 1373 (by decide +kernel) rfl, mV_MX10_back, by decide⟩
theorem lf_11_91 : LF 11 91 (0, MX9_ahead) := ⟨mB_MX9_ahead, TB_in 735 (by decide +kernel) rfl, mV_MX9_ahead, by decide⟩
theorem lf_11_94 : LF 11 94 (0, MX10_ahead) := ⟨mB_MX10_ahead, TB_in 1377 (by decide +kernel) rfl, mV_MX10_ahead, by decide⟩
theorem lf_11_95 : LF 11 95 (0, MX9_would) := ⟨mB_MX9_would, TB_in 742 (by decide +kernel) rfl, mV_MX9_would, by decide⟩
theorem lf_11_98 : LF 11 98 (0, MX10_would) := ⟨mB_MX10_would, TB_in 1381 (by decide +kernel) rfl, mV_MX10_would, by decide⟩
theorem lf_11_99 : LF 11 99 (0, MX9_till) := ⟨mB_MX9_till, TB_in 751 (by decide +kernel) rfl, mV_MX9_till, by decide⟩
theorem lf_11_102 : LF 11 102 (0, MX10_till) := ⟨mB_MX10_till, TB_in 1389 (by decide +kernel) rfl, mV_MX10_till, by decide⟩
theorem lf_11_103 : LF 11 103 (0, MX9_origin) := ⟨mB_MX9_origin, TB_in 759 (by decide +kernel) rfl, mV_MX9_origin, by decide⟩
theorem lf_11_106 : LF 11 106 (0, MX10_origin) := ⟨mB_MX10_origin, TB_in 1393 (by decide +kernel) rfl, mV_MX10_origin, by decide⟩
theorem lf_11_107 : LF 11 107 (0, MX9_gone) := ⟨mB_MX9_gone, TB_in 766 (by decide +kernel) rfl, mV_MX9_gone, by decide⟩
theorem lf_11_110 : LF 11 110 (0, MX10_gone) := ⟨mB_MX10_gone, TB_in 1401 (by decide +kernel) rfl, mV_MX10_gone, by decide⟩
theorem lf_11_111 : LF 11 111 (0, MX9_upTo) := ⟨mB_MX9_upTo, TB_in 773 (by decide +kernel) rfl, mV_MX9_upTo, by decide⟩
theorem lf_11_114 : LF 11 114 (0, MX10_upTo) := ⟨mB_MX10_upTo, TB_in 1405 (by decide +kernel) rfl, mV_MX10_upTo, by decide⟩
theorem lf_11_115 : LF 11 115 (0, MX9_gap) := ⟨mB_MX9_gap, TB_in 778 (by decide +kernel) rfl, mV_MX9_gap, by decide⟩
theorem lf_11_118 : LF 11 118 (0, MX10_gap) := ⟨mB_MX10_gap, TB_in 1413 (by decide +kernel) rfl, mV_MX10_gap, by decide⟩
theorem lf_11_119 : LF 11 119 (0, MX9_gaps) := ⟨mB_MX9_gaps, TB_in 786 (by decide +kernel) rfl, mV_MX9_gaps, by decide⟩
theorem lf_11_122 : LF 11 122 (0, MX10_gaps) := ⟨mB_MX10_gaps, TB_in 1421 (by decide +kernel) rfl, mV_MX10_gaps, by decide⟩
theorem lf_11_123 : LF 11 123 (0, MX9_gapsOf) := ⟨mB_MX9_gapsOf, TB_in 811 (by decide +kernel) rfl, mV_MX9_gapsOf, by decide⟩
theorem lf_11_126 : LF 11 126 (0, MX10_gapsOf) := ⟨mB_MX10_gapsOf, TB_in 1433 (by decide +kernel) rfl, mV_MX10_gapsOf, by decide⟩
theorem lf_11_127 : LF 11 127 (0, MX9_record) := ⟨mB_MX9_record, TB_in 815 (by decide +kernel) rfl, mV_MX9_record, by decide⟩
theorem lf_11_130 : LF 11 130 (0, MX10_record) := ⟨mB_MX10_record, TB_in 1437 (by decide +kernel) rfl, mV_MX10_record, by decide⟩
theorem lf_11_131 : LF 11 131 (0, MX9_pairs) := ⟨mB_MX9_pairs, TB_in 822 (by decide +kernel) rfl, mV_MX9_pairs, by decide⟩
theorem lf_11_134 : LF 11 134 (0, MX10_pairs) := ⟨mB_MX10_pairs, TB_in 1457 (by decide +kernel) rfl, mV_MX10_pairs, by decide⟩
theorem lf_11_135 : LF 11 135 (0, MX9_triples) := ⟨mB_MX9_triples, TB_in 831 (by decide +kernel) rfl, mV_MX9_triples, by decide⟩
theorem lf_11_138 : LF 11 138 (0, MX10_triples) := ⟨mB_MX10_triples, TB_in 1466 (by decide +kernel) rfl, mV_MX10_triples, by decide⟩
theorem lf_11_139 : LF 11 139 (0, MX9_sums) := ⟨mB_MX9_sums, TB_in 838 (by decide +kernel) rfl, mV_MX9_sums, by decide⟩
theorem lf_11_142 : LF 11 142 (0, MX10_sums) := ⟨mB_MX10_sums, TB_in 1470 (by decide +kernel) rfl, mV_MX10_sums, by decide⟩
theorem lf_11_143 : LF 11 143 (0, MX9_misses) := ⟨mB_MX9_misses, TB_in 845 (by decide +kernel) rfl, mV_MX9_misses, by decide⟩
theorem lf_11_146 : LF 11 146 (0, MX10_misses) := ⟨mB_MX10_misses, TB_in 1478 (by decide +kernel) rfl, mV_MX10_misses, by decide⟩
theorem lf_11_147 : LF 11 147 (0, MX9_run) := ⟨mB_MX9_run, TB_in 858 (by decide +kernel) rfl, mV_MX9_run, by decide⟩
theorem lf_11_150 : LF 11 150 (0, MX10_run) := ⟨mB_MX10_run, TB_in 1482 (by decide +kernel) rfl, mV_MX10_run, by decide⟩
theorem lf_11_151 : LF 11 151 (0, MX9_progression) := ⟨mB_MX9_progression, TB_in 868 (by decide +kernel) rfl, mV_MX9_progression, by decide⟩
theorem lf_11_154 : LF 11 154 (0, MX10_progression) := ⟨mB_MX10_progression, TB_in 1490 (by decide +kernel) rfl, mV_MX10_progression, by decide⟩
theorem lf_11_155 : LF 11 155 (0, MX9_rests) := ⟨mB_MX9_rests, TB_in 879 (by decide +kernel) rfl, mV_MX9_rests, by decide⟩
theorem lf_11_158 : LF 11 158 (0, MX10_rests) := ⟨mB_MX10_rests, TB_in 1498 (by decide +kernel) rfl, mV_MX10_rests, by decide⟩
theorem lf_11_159 : LF 11 159 (0, MX9_ring) := ⟨mB_MX9_ring, TB_in 890 (by decide +kernel) rfl, mV_MX9_ring, by decide⟩
theorem lf_11_162 : LF 11 162 (0, MX10_ring) := ⟨mB_MX10_ring, TB_in 1507 (by decide +kernel) rfl, mV_MX10_ring, by decide⟩
theorem lf_11_163 : LF 11 163 (0, MX9_chain) := ⟨mB_MX9_chain, TB_in 899 (by decide +kernel) rfl, mV_MX9_chain, by decide⟩
theorem lf_11_166 : LF 11 166 (0, MX10_chain) := ⟨mB_MX10_chain, TB_in 1511 (by decide +kernel) rfl, mV_MX10_chain, by decide⟩
theorem lf_11_167 : LF 11 167 (0, MX9_spread) := ⟨mB_MX9_spread, TB_in 908 (by decide +kernel) rfl, mV_MX9_spread, by decide⟩
theorem lf_11_170 : LF 11 170 (0, MX10_spread) := ⟨mB_MX10_spread, TB_in 1515 (by decide +kernel) rfl, mV_MX10_spread, by decide⟩
theorem lf_11_171 : LF 11 171 (0, MX9_sketch) := ⟨mB_MX9_sketch, TB_in 919 (by decide +kernel) rfl, mV_MX9_sketch, by decide⟩
theorem lf_11_174 : LF 11 174 (0, MX10_sketch) := ⟨mB_MX10_sketch, TB_in 1519 (by decide +kernel) rfl, mV_MX10_sketch, by decide⟩
theorem lf_11_175 : LF 11 175 (0, MX9_balance) := ⟨mB_MX9_balance, TB_in 928 (by decide +kernel) rfl, mV_MX9_balance, by decide⟩
theorem lf_11_178 : LF 11 178 (0, MX10_balance) := ⟨mB_MX10_balance, TB_in 1523 (by decide +kernel) rfl, mV_MX10_balance, by decide⟩
theorem lf_11_179 : LF 11 179 (0, MX9_pattern) := ⟨mB_MX9_pattern, TB_in 933 (by decide +kernel) rfl, mV_MX9_pattern, by decide⟩
theorem lf_11_182 : LF 11 182 (0, MX10_pattern) := ⟨mB_MX10_pattern, TB_in 1445 (by decide +kernel) rfl, mV_MX10_pattern, by decide⟩
theorem lf_11_183 : LF 11 183 (0, MX9_mirror) := ⟨mB_MX9_mirror, TB_in 940 (by decide +kernel) rfl, mV_MX9_mirror, by decide⟩
theorem lf_11_186 : LF 11 186 (0, MX10_mirror) := ⟨mB_MX10_mirror, TB_in 1449 (by decide +kernel) rfl, mV_MX10_mirror, by decide⟩
theorem lf_11_187 : LF 11 187 (0, MX9_half) := ⟨mB_MX9_half, TB_in 954 (by decide +kernel) rfl, mV_MX9_half, by decide⟩
theorem lf_11_190 : LF 11 190 (0, MX10_half) := ⟨mB_MX10_half, TB_in 1527 (by decide +kernel) rfl, mV_MX10_half, by decide⟩
theorem lf_11_191 : LF 11 191 (0, MX9_usual) := ⟨mB_MX9_usual, TB_in 958 (by decide +kernel) rfl, mV_MX9_usual, by decide⟩
theorem lf_11_194 : LF 11 194 (0, MX10_usual) := ⟨mB_MX10_usual, TB_in 1441 (by decide +kernel) rfl, mV_MX10_usual, by decide⟩
theorem lf_11_195 : LF 11 195 (0, MX9_both) := ⟨mB_MX9_both, TB_in 965 (by decide +kernel) rfl, mV_MX9_both, by decide⟩
theorem lf_11_198 : LF 11 198 (0, MX10_both) := ⟨mB_MX10_both, TB_in 1531 (by decide +kernel) rfl, mV_MX10_both, by decide⟩
theorem lf_11_199 : LF 11 199 (0, MX9_lead) := ⟨mB_MX9_lead, TB_in 981 (by decide +kernel) rfl, mV_MX9_lead, by decide⟩
theorem lf_11_202 : LF 11 202 (0, MX10_lead) := ⟨mB_MX10_lead, TB_in 1551 (by decide +kernel) rfl, mV_MX10_lead, by decide⟩
theorem lf_11_203 : LF 11 203 (0, MX9_alike) := ⟨mB_MX9_alike, TB_in 995 (by decide +kernel) rfl, mV_MX9_alike, by decide⟩
theorem lf_11_206 : LF 11 206 (0, MX10_alike) := ⟨mB_MX10_alike, TB_in 1560 (by decide +kernel) rfl, mV_MX10_alike, by decide⟩
theorem lf_11_207 : LF 11 207 (0, MX9_through) := ⟨mB_MX9_through, TB_in 1003 (by decide +kernel) rfl, mV_MX9_through, by decide⟩
theorem lf_11_210 : LF 11 210 (0, MX10_through) := ⟨mB_MX10_through, TB_in 1564 (by decide +kernel) rfl, mV_MX10_through, by decide⟩
theorem lf_11_211 : LF 11 211 (0, MX9_list) := ⟨mB_MX9_list, TB_in 1010 (by decide +kernel) rfl, mV_MX9_list, by decide⟩
theorem lf_11_214 : LF 11 214 (0, MX10_list) := ⟨mB_MX10_list, TB_in 1577 (by decide +kernel) rfl, mV_MX10_list, by decide⟩
theorem lf_11_215 : LF 11 215 (0, MX9_fits) := ⟨mB_MX9_fits, TB_in 1021 (by decide +kernel) rfl, mV_MX9_fits, by decide⟩
theorem lf_11_218 : LF 11 218 (0, MX10_fits) := ⟨mB_MX10_fits, TB_in 1593 (by decide +kernel) rfl, mV_MX10_fits, by decide⟩
theorem lf_11_219 : LF 11 219 (0, MX9_guess) := ⟨mB_MX9_guess, TB_in 1041 (by decide +kernel) rfl, mV_MX9_guess, by decide⟩
theorem lf_11_222 : LF 11 222 (0, MX10_guess) := ⟨mB_MX10_guess, TB_in 1601 (by decide +kernel) rfl, mV_MX10_guess, by decide⟩
theorem lf_11_223 : LF 11 223 (0, MX9_meets) := ⟨mB_MX9_meets, TB_in 1045 (by decide +kernel) rfl, mV_MX9_meets, by decide⟩
theorem lf_11_226 : LF 11 226 (0, MX10_meets) := ⟨mB_MX10_meets, TB_in 1568 (by decide +kernel) rfl, mV_MX10_meets, by decide⟩
theorem lf_11_227 : LF 11 227 (0, MX9_apart) := ⟨mB_MX9_apart, TB_in 1052 (by decide +kernel) rfl, mV_MX9_apart, by decide⟩
theorem lf_11_230 : LF 11 230 (0, MX10_apart) := ⟨mB_MX10_apart, TB_in 1573 (by decide +kernel) rfl, mV_MX10_apart, by decide⟩
theorem lf_11_231 : LF 11 231 (0, MX9_print) := ⟨mB_MX9_print, TB_in 1062 (by decide +kernel) rfl, mV_MX9_print, by decide⟩
theorem lf_11_234 : LF 11 234 (0, MX10_print) := ⟨mB_MX10_print, TB_in 1605 (by decide +kernel) rfl, mV_MX10_print, by decide⟩
theorem lf_11_235 : LF 11 235 (0, MX9_out) := ⟨mB_MX9_out, TB_in 1082 (by decide +kernel) rfl, mV_MX9_out, by decide⟩
theorem lf_11_238 : LF 11 238 (0, MX10_out) := ⟨mB_MX10_out, TB_in 1617 (by decide +kernel) rfl, mV_MX10_out, by decide⟩
theorem lF_11 : ∀ q ∈ lkT 11, LF 11 q.1 q.2 := List.forall_mem_cons.mpr ⟨lf_11_9, List.forall_mem_cons.mpr ⟨lf_11_12, List.forall_mem_cons.mpr ⟨lf_11_13, List.forall_mem_cons.mpr ⟨lf_11_17, List.forall_mem_cons.mpr ⟨lf_11_18, List.forall_mem_cons.mpr ⟨lf_11_22, List.forall_mem_cons.mpr ⟨lf_11_23, List.forall_mem_cons.mpr ⟨lf_11_27, List.forall_mem_cons.mpr ⟨lf_11_28, List.forall_mem_cons.mpr ⟨lf_11_31, List.forall_mem_cons.mpr ⟨lf_11_32, List.forall_mem_cons.mpr ⟨lf_11_35, List.forall_mem_cons.mpr ⟨lf_11_36, List.forall_mem_cons.mpr ⟨lf_11_40, List.forall_mem_cons.mpr ⟨lf_11_41, List.forall_mem_cons.mpr ⟨lf_11_44, List.forall_mem_cons.mpr ⟨lf_11_45, List.forall_mem_cons.mpr ⟨lf_11_48, List.forall_mem_cons.mpr ⟨lf_11_49, List.forall_mem_cons.mpr ⟨lf_11_53, List.forall_mem_cons.mpr ⟨lf_11_54, List.forall_mem_cons.mpr ⟨lf_11_57, List.forall_mem_cons.mpr ⟨lf_11_58, List.forall_mem_cons.mpr ⟨lf_11_61, List.forall_mem_cons.mpr ⟨lf_11_62, List.forall_mem_cons.mpr ⟨lf_11_66, List.forall_mem_cons.mpr ⟨lf_11_67, List.forall_mem_cons.mpr ⟨lf_11_70, List.forall_mem_cons.mpr ⟨lf_11_71, List.forall_mem_cons.mpr ⟨lf_11_74, List.forall_mem_cons.mpr ⟨lf_11_75, List.forall_mem_cons.mpr ⟨lf_11_78, List.forall_mem_cons.mpr ⟨lf_11_79, List.forall_mem_cons.mpr ⟨lf_11_82, List.forall_mem_cons.mpr ⟨lf_11_83, List.forall_mem_cons.mpr ⟨lf_11_86, List.forall_mem_cons.mpr ⟨lf_11_87, List.forall_mem_cons.mpr ⟨lf_11_90, List.forall_mem_cons.mpr ⟨lf_11_91, List.forall_mem_cons.mpr ⟨lf_11_94, List.forall_mem_cons.mpr ⟨lf_11_95, List.forall_mem_cons.mpr ⟨lf_11_98, List.forall_mem_cons.mpr ⟨lf_11_99, List.forall_mem_cons.mpr ⟨lf_11_102, List.forall_mem_cons.mpr ⟨lf_11_103, List.forall_mem_cons.mpr ⟨lf_11_106, List.forall_mem_cons.mpr ⟨lf_11_107, List.forall_mem_cons.mpr ⟨lf_11_110, List.forall_mem_cons.mpr ⟨lf_11_111, List.forall_mem_cons.mpr ⟨lf_11_114, List.forall_mem_cons.mpr ⟨lf_11_115, List.forall_mem_cons.mpr ⟨lf_11_118, List.forall_mem_cons.mpr ⟨lf_11_119, List.forall_mem_cons.mpr ⟨lf_11_122, List.forall_mem_cons.mpr ⟨lf_11_123, List.forall_mem_cons.mpr ⟨lf_11_126, List.forall_mem_cons.mpr ⟨lf_11_127, List.forall_mem_cons.mpr ⟨lf_11_130, List.forall_mem_cons.mpr ⟨lf_11_131, List.forall_mem_cons.mpr ⟨lf_11_134, List.forall_mem_cons.mpr ⟨lf_11_135, List.forall_mem_cons.mpr ⟨lf_11_138, List.forall_mem_cons.mpr ⟨lf_11_139, List.forall_mem_cons.mpr ⟨lf_11_142, List.forall_mem_cons.mpr ⟨lf_11_143, List.forall_mem_cons.mpr ⟨lf_11_146, List.forall_mem_cons.mpr ⟨lf_11_147, List.forall_mem_cons.mpr ⟨lf_11_150, List.forall_mem_cons.mpr ⟨lf_11_151, List.forall_mem_cons.mpr ⟨lf_11_154, List.forall_mem_cons.mpr ⟨lf_11_155, List.forall_mem_cons.mpr ⟨lf_11_158, List.forall_mem_cons.mpr ⟨lf_11_159, List.forall_mem_cons.mpr ⟨lf_11_162, List.forall_mem_cons.mpr ⟨lf_11_163, List.forall_mem_cons.mpr ⟨lf_11_166, List.forall_mem_cons.mpr ⟨lf_11_167, List.forall_mem_cons.mpr ⟨lf_11_170, List.forall_mem_cons.mpr ⟨lf_11_171, List.forall_mem_cons.mpr ⟨lf_11_174, List.forall_mem_cons.mpr ⟨lf_11_175, List.forall_mem_cons.mpr ⟨lf_11_178, List.forall_mem_cons.mpr ⟨lf_11_179, List.forall_mem_cons.mpr ⟨lf_11_182, List.forall_mem_cons.mpr ⟨lf_11_183, List.forall_mem_cons.mpr ⟨lf_11_186, List.forall_mem_cons.mpr ⟨lf_11_187, List.forall_mem_cons.mpr ⟨lf_11_190, List.forall_mem_cons.mpr ⟨lf_11_191, List.forall_mem_cons.mpr ⟨lf_11_194, List.forall_mem_cons.mpr ⟨lf_11_195, List.forall_mem_cons.mpr ⟨lf_11_198, List.forall_mem_cons.mpr ⟨lf_11_199, List.forall_mem_cons.mpr ⟨lf_11_202, List.forall_mem_cons.mpr ⟨lf_11_203, List.forall_mem_cons.mpr ⟨lf_11_206, List.forall_mem_cons.mpr ⟨lf_11_207, List.forall_mem_cons.mpr ⟨lf_11_210, List.forall_mem_cons.mpr ⟨lf_11_211, List.forall_mem_cons.mpr ⟨lf_11_214, List.forall_mem_cons.mpr ⟨lf_11_215, List.forall_mem_cons.mpr ⟨lf_11_218, List.forall_mem_cons.mpr ⟨lf_11_219, List.forall_mem_cons.mpr ⟨lf_11_222, List.forall_mem_cons.mpr ⟨lf_11_223, List.forall_mem_cons.mpr ⟨lf_11_226, List.forall_mem_cons.mpr ⟨lf_11_227, List.forall_mem_cons.mpr ⟨lf_11_230, List.forall_mem_cons.mpr ⟨lf_11_231, List.forall_mem_cons.mpr ⟨lf_11_234, List.forall_mem_cons.mpr ⟨lf_11_235, List.forall_mem_cons.mpr ⟨lf_11_238, fun _ h => absurd h List.not_mem_nil⟩⟩⟩⟩⟩⟩⟩⟩⟩⟩⟩⟩⟩⟩⟩⟩⟩⟩⟩⟩⟩⟩⟩⟩⟩⟩⟩⟩⟩⟩⟩⟩⟩⟩⟩⟩⟩⟩⟩⟩⟩⟩⟩⟩⟩⟩⟩⟩⟩⟩⟩⟩⟩⟩⟩⟩⟩⟩⟩⟩⟩⟩⟩⟩⟩⟩⟩⟩⟩⟩⟩⟩⟩⟩⟩⟩⟩⟩⟩⟩⟩⟩⟩⟩⟩⟩⟩⟩⟩⟩⟩⟩⟩⟩⟩⟩⟩⟩⟩⟩⟩⟩⟩⟩⟩⟩⟩⟩⟩⟩⟩⟩
theorem lF_12 : ∀ q ∈ lkT 12, LF 12 q.1 q.2 := fun _ h => absurd h List.not_mem_nil
theorem lF_13 : ∀ q ∈ lkT 13, LF 13 q.1 q.2 := fun _ h => absurd h List.not_mem_nil
theorem lF_all (own : Nat) (ho : own < 14) : ∀ q ∈ lkT own, LF own q.1 q.2 := by
  match own, ho with
  | 0, _ => exact lF_0
  | 1, _ => exact lF_1
  | 2, _ => exact lF_2
  | 3, _ => exact lF_3
  | 4, _ => exact lF_4
  | 5, _ => exact lF_5
  | 6, _ => exact lF_6
  | 7, _ => exact lF_7
  | 8, _ => exact lF_8
  | 9, _ => exact lF_9
  | 10, _ => exact lF_10
  | 11, _ => exact lF_11
  | 12, _ => exact lF_12
  | 13, _ => exact lF_13
  | n + 14, h => exact absurd h (by omega)
theorem find_map {α : Type} {L : List (Nat × α)} {i : Nat} {x : α} (h : (L.find? (fun q => q.1 == i)).map (·.2) = some x) : (i, x) ∈ L := by
  cases hf : L.find? (fun q => q.1 == i) with
  | none => rw [hf] at h; cases h
  | some q =>
    rw [hf] at h
    have h1 := List.find?_some hf
    have h2 := List.mem_of_find?_eq_some hf
    obtain ⟨a, y⟩ := q
    have e1 : a = i := by simpa using h1
    have e2 : y = x := Option.some.inj h
    rw [← e1, ← e2]
    exact h2
theorem lk_ok {own i : Nat} {q : Nat × MI} (ho : own < 14) (h : lk own i = some q) : LF own i q := lF_all own ho _ (find_map h)
/-- fields -/
def FF (own : Nat) (q : Nat × Nat × Nat) : Prop := (q.2.1 < 7 ∧ q.2.2 < NO q.2.1) ∧ Cond.fieldLink (RN own) q.1 (RO q.2.1) (TO q.2.1 q.2.2).2.1 (TO q.2.1 q.2.2).2.2.1 ∈ TB
theorem fF_0 : ∀ q ∈ flT 0, FF 0 q := List.forall_mem_cons.mpr ⟨⟨⟨by decide, by decide⟩, TB_in 134 (by decide +kernel) rfl⟩, fun _ h => absurd h List.not_mem_nil⟩
theorem fF_1 : ∀ q ∈ flT 1, FF 1 q := List.forall_mem_cons.mpr ⟨⟨⟨by decide, by decide⟩, TB_in 132 (by decide +kernel) rfl⟩, List.forall_mem_cons.mpr ⟨⟨⟨by decide, by decide⟩, TB_in 119 (by decide +kernel) rfl⟩, List.forall_mem_cons.mpr ⟨⟨⟨by decide, by decide⟩, TB_in 127 (by decide +kernel) rfl⟩, fun _ h => absurd h List.not_mem_nil⟩⟩⟩
theorem fF_2 : ∀ q ∈ flT 2, FF 2 q := List.forall_mem_cons.mpr ⟨⟨⟨by decide, by decide⟩, TB_in 172 (by decide +kernel) rfl⟩, List.forall_mem_cons.mpr ⟨⟨⟨by decide, by decide⟩, TB_in 173 (by decide +kernel) rfl⟩, fun _ h => absurd h List.not_mem_nil⟩⟩
theorem fF_3 : ∀ q ∈ flT 3, FF 3 q := List.forall_mem_cons.mpr ⟨⟨⟨by decide, by decide⟩, TB_in 117 (by decide +kernel) rfl⟩, List.forall_mem_cons.mpr ⟨⟨⟨by decide, by decide⟩, TB_in 129 (by decide +kernel) rfl⟩, List.forall_mem_cons.mpr ⟨⟨⟨by decide, by decide⟩, TB_in 126 (by decide +kernel) rfl⟩, List.forall_mem_cons.mpr ⟨⟨⟨by decide, by decide⟩, TB_in 124 (by decide +kernel) rfl⟩, List.forall_mem_cons.mpr ⟨⟨⟨by decide, by decide⟩, TB_in 111 (by decide +kernel) rfl⟩, fun _ h => absurd h List.not_mem_nil⟩⟩⟩⟩⟩
theorem fF_4 : ∀ q ∈ flT 4, FF 4 q := List.forall_mem_cons.mpr ⟨⟨⟨by decide, by decide⟩, TB_in 276 (by decide +kernel) rfl⟩, List.forall_mem_cons.mpr ⟨⟨⟨by decide, by decide⟩, TB_in 278 (by decide +kernel) rfl⟩, List.forall_mem_cons.mpr ⟨⟨⟨by decide, by decide⟩, TB_in 133 (by decide +kernel) rfl⟩, fun _ h => absurd h List.not_mem_nil⟩⟩⟩
theorem fF_5 : ∀ q ∈ flT 5, FF 5 q := List.forall_mem_cons.mpr ⟨⟨⟨by decide, by decide⟩, TB_in 181 (by decide +kernel) rfl⟩, List.forall_mem_cons.mpr ⟨⟨⟨by decide, by decide⟩, TB_in 185 (by decide +kernel) rfl⟩, List.forall_mem_cons.mpr ⟨⟨⟨by decide, by decide⟩, TB_in 187 (by decide +kernel) rfl⟩, List.forall_mem_cons.mpr ⟨⟨⟨by decide, by decide⟩, TB_in 193 (by decide +kernel) rfl⟩, List.forall_mem_cons.mpr ⟨⟨⟨by decide, by decide⟩, TB_in 196 (by decide +kernel) rfl⟩, List.forall_mem_cons.mpr ⟨⟨⟨by decide, by decide⟩, TB_in 199 (by decide +kernel) rfl⟩, List.forall_mem_cons.mpr ⟨⟨⟨by decide, by decide⟩, TB_in 200 (by decide +kernel) rfl⟩, List.forall_mem_cons.mpr ⟨⟨⟨by decide, by decide⟩, TB_in 182 (by decide +kernel) rfl⟩, List.forall_mem_cons.mpr ⟨⟨⟨by decide, by decide⟩, TB_in 184 (by decide +kernel) rfl⟩, List.forall_mem_cons.mpr ⟨⟨⟨by decide, by decide⟩, TB_in 195 (by decide +kernel) rfl⟩, List.forall_mem_cons.mpr ⟨⟨⟨by decide, by decide⟩, TB_in 198 (by decide +kernel) rfl⟩, List.forall_mem_cons.mpr ⟨⟨⟨by decide, by decide⟩, TB_in 191 (by decide +kernel) rfl⟩, List.forall_mem_cons.mpr ⟨⟨⟨by decide, by decide⟩, TB_in 189 (by decide +kernel) rfl⟩, List.forall_mem_cons.mpr ⟨⟨⟨by decide, by decide⟩, TB_in 116 (by decide +kernel) rfl⟩, List.forall_mem_cons.mpr ⟨⟨⟨by decide, by decide⟩, TB_in 114 (by decide +kernel) rfl⟩, List.forall_mem_cons.mpr ⟨⟨⟨by decide, by decide⟩, TB_in 174 (by decide +kernel) rfl⟩, List.forall_mem_cons.mpr ⟨⟨⟨by decide, by decide⟩, TB_in 190 (by decide +kernel) rfl⟩, List.forall_mem_cons.mpr ⟨⟨⟨by decide, by decide⟩, TB_in 192 (by decide +kernel) rfl⟩, fun _ h => absurd h List.not_mem_nil⟩⟩⟩⟩⟩⟩⟩⟩⟩⟩⟩⟩⟩⟩⟩⟩⟩⟩
theorem fF_6 : ∀ q ∈ flT 6, FF 6 q := List.forall_mem_cons.mpr ⟨⟨⟨by decide, by decide⟩, TB_in 242 (by decide +kernel) rfl⟩, List.forall_mem_cons.mpr ⟨⟨⟨by decide, by decide⟩, TB_in 245 (by decide +kernel) rfl⟩, List.forall_mem_cons.mpr ⟨⟨⟨by decide, by decide⟩, TB_in 248 (by decide +kernel) rfl⟩, List.forall_mem_cons.mpr ⟨⟨⟨by decide, by decide⟩, TB_in 249 (by decide +kernel) rfl⟩, List.forall_mem_cons.mpr ⟨⟨⟨by decide, by decide⟩, TB_in 250 (by decide +kernel) rfl⟩, List.forall_mem_cons.mpr ⟨⟨⟨by decide, by decide⟩, TB_in 243 (by decide +kernel) rfl⟩, List.forall_mem_cons.mpr ⟨⟨⟨by decide, by decide⟩, TB_in 246 (by decide +kernel) rfl⟩, List.forall_mem_cons.mpr ⟨⟨⟨by decide, by decide⟩, TB_in 251 (by decide +kernel) rfl⟩, List.forall_mem_cons.mpr ⟨⟨⟨by decide, by decide⟩, TB_in 194 (by decide +kernel) rfl⟩, List.forall_mem_cons.mpr ⟨⟨⟨by decide, by decide⟩, TB_in 197 (by decide +kernel) rfl⟩, fun _ h => absurd h List.not_mem_nil⟩⟩⟩⟩⟩⟩⟩⟩⟩⟩
theorem fF_7 : ∀ q ∈ flT 7, FF 7 q := List.forall_mem_cons.mpr ⟨⟨⟨by decide, by decide⟩, TB_in 115 (by decide +kernel) rfl⟩, List.forall_mem_cons.mpr ⟨⟨⟨by decide, by decide⟩, TB_in 123 (by decide +kernel) rfl⟩, List.forall_mem_cons.mpr ⟨⟨⟨by decide, by decide⟩, TB_in 125 (by decide +kernel) rfl⟩, List.forall_mem_cons.mpr ⟨⟨⟨by decide, by decide⟩, TB_in 128 (by decide +kernel) rfl⟩, List.forall_mem_cons.mpr ⟨⟨⟨by decide, by decide⟩, TB_in 130 (by decide +kernel) rfl⟩, List.forall_mem_cons.mpr ⟨⟨⟨by decide, by decide⟩, TB_in 106 (by decide +kernel) rfl⟩, List.forall_mem_cons.mpr ⟨⟨⟨by decide, by decide⟩, TB_in 107 (by decide +kernel) rfl⟩, List.forall_mem_cons.mpr ⟨⟨⟨by decide, by decide⟩, TB_in 108 (by decide +kernel) rfl⟩, List.forall_mem_cons.mpr ⟨⟨⟨by decide, by decide⟩, TB_in 110 (by decide +kernel) rfl⟩, List.forall_mem_cons.mpr ⟨⟨⟨by decide, by decide⟩, TB_in 113 (by decide +kernel) rfl⟩, List.forall_mem_cons.mpr ⟨⟨⟨by decide, by decide⟩, TB_in 118 (by decide +kernel) rfl⟩, List.forall_mem_cons.mpr ⟨⟨⟨by decide, by decide⟩, TB_in 121 (by decide +kernel) rfl⟩, List.forall_mem_cons.mpr ⟨⟨⟨by decide, by decide⟩, TB_in 122 (by decide +kernel) rfl⟩, List.forall_mem_cons.mpr ⟨⟨⟨by decide, by decide⟩, TB_in 135 (by decide +kernel) rfl⟩, fun _ h => absurd h List.not_mem_nil⟩⟩⟩⟩⟩⟩⟩⟩⟩⟩⟩⟩⟩⟩
theorem fF_8 : ∀ q ∈ flT 8, FF 8 q := List.forall_mem_cons.mpr ⟨⟨⟨by decide, by decide⟩, TB_in 131 (by decide +kernel) rfl⟩, List.forall_mem_cons.mpr ⟨⟨⟨by decide, by decide⟩, TB_in 109 (by decide +kernel) rfl⟩, fun _ h => absurd h List.not_mem_nil⟩⟩
theorem fF_9 : ∀ q ∈ flT 9, FF 9 q := List.forall_mem_cons.mpr ⟨⟨⟨by decide, by decide⟩, TB_in 287 (by decide +kernel) rfl⟩, List.forall_mem_cons.mpr ⟨⟨⟨by decide, by decide⟩, TB_in 288 (by decide +kernel) rfl⟩, List.forall_mem_cons.mpr ⟨⟨⟨by decide, by decide⟩, TB_in 289 (by decide +kernel) rfl⟩, List.forall_mem_cons.mpr ⟨⟨⟨by decide, by decide⟩, TB_in 290 (by decide +kernel) rfl⟩, List.forall_mem_cons.mpr ⟨⟨⟨by decide, by decide⟩, TB_in 291 (by decide +kernel) rfl⟩, List.forall_mem_cons.mpr ⟨⟨⟨by decide, by decide⟩, TB_in 292 (by decide +kernel) rfl⟩, List.forall_mem_cons.mpr ⟨⟨⟨by decide, by decide⟩, TB_in 183 (by decide +kernel) rfl⟩, List.forall_mem_cons.mpr ⟨⟨⟨by decide, by decide⟩, TB_in 244 (by decide +kernel) rfl⟩, List.forall_mem_cons.mpr ⟨⟨⟨by decide, by decide⟩, TB_in 186 (by decide +kernel) rfl⟩, List.forall_mem_cons.mpr ⟨⟨⟨by decide, by decide⟩, TB_in 188 (by decide +kernel) rfl⟩, List.forall_mem_cons.mpr ⟨⟨⟨by decide, by decide⟩, TB_in 252 (by decide +kernel) rfl⟩, List.forall_mem_cons.mpr ⟨⟨⟨by decide, by decide⟩, TB_in 247 (by decide +kernel) rfl⟩, List.forall_mem_cons.mpr ⟨⟨⟨by decide, by decide⟩, TB_in 136 (by decide +kernel) rfl⟩, List.forall_mem_cons.mpr ⟨⟨⟨by decide, by decide⟩, TB_in 112 (by decide +kernel) rfl⟩, List.forall_mem_cons.mpr ⟨⟨⟨by decide, by decide⟩, TB_in 120 (by decide +kernel) rfl⟩, List.forall_mem_cons.mpr ⟨⟨⟨by decide, by decide⟩, TB_in 175 (by decide +kernel) rfl⟩, List.forall_mem_cons.mpr ⟨⟨⟨by decide, by decide⟩, TB_in 279 (by decide +kernel) rfl⟩, List.forall_mem_cons.mpr ⟨⟨⟨by decide, by decide⟩, TB_in 277 (by decide +kernel) rfl⟩, fun _ h => absurd h List.not_mem_nil⟩⟩⟩⟩⟩⟩⟩⟩⟩⟩⟩⟩⟩⟩⟩⟩⟩⟩
theorem fF_10 : ∀ q ∈ flT 10, FF 10 q := List.forall_mem_cons.mpr ⟨⟨⟨by decide, by decide⟩, TB_in 1108 (by decide +kernel) rfl⟩, List.forall_mem_cons.mpr ⟨⟨⟨by decide, by decide⟩, TB_in 1109 (by decide +kernel) rfl⟩, List.forall_mem_cons.mpr ⟨⟨⟨by decide, by decide⟩, TB_in 1110 (by decide +kernel) rfl⟩, List.forall_mem_cons.mpr ⟨⟨⟨by decide, by decide⟩, TB_in 1111 (by decide +kernel) rfl⟩, List.forall_mem_cons.mpr ⟨⟨⟨by decide, by decide⟩, TB_in 1115 (by decide +kernel) rfl⟩, List.forall_mem_cons.mpr ⟨⟨⟨by decide, by decide⟩, TB_in 1116 (by decide +kernel) rfl⟩, List.forall_mem_cons.mpr ⟨⟨⟨by decide, by decide⟩, TB_in 1117 (by decide +kernel) rfl⟩, List.forall_mem_cons.mpr ⟨⟨⟨by decide, by decide⟩, TB_in 1119 (by decide +kernel) rfl⟩, List.forall_mem_cons.mpr ⟨⟨⟨by decide, by decide⟩, TB_in 1120 (by decide +kernel) rfl⟩, List.forall_mem_cons.mpr ⟨⟨⟨by decide, by decide⟩, TB_in 1121 (by decide +kernel) rfl⟩, List.forall_mem_cons.mpr ⟨⟨⟨by decide, by decide⟩, TB_in 1123 (by decide +kernel) rfl⟩, List.forall_mem_cons.mpr ⟨⟨⟨by decide, by decide⟩, TB_in 1125 (by decide +kernel) rfl⟩, List.forall_mem_cons.mpr ⟨⟨⟨by decide, by decide⟩, TB_in 1126 (by decide +kernel) rfl⟩, List.forall_mem_cons.mpr ⟨⟨⟨by decide, by decide⟩, TB_in 1137 (by decide +kernel) rfl⟩, List.forall_mem_cons.mpr ⟨⟨⟨by decide, by decide⟩, TB_in 1139 (by decide +kernel) rfl⟩, List.forall_mem_cons.mpr ⟨⟨⟨by decide, by decide⟩, TB_in 1107 (by decide +kernel) rfl⟩, List.forall_mem_cons.mpr ⟨⟨⟨by decide, by decide⟩, TB_in 1106 (by decide +kernel) rfl⟩, List.forall_mem_cons.mpr ⟨⟨⟨by decide, by decide⟩, TB_in 1112 (by decide +kernel) rfl⟩, List.forall_mem_cons.mpr ⟨⟨⟨by decide, by decide⟩, TB_in 1118 (by decide +kernel) rfl⟩, List.forall_mem_cons.mpr ⟨⟨⟨by decide, by decide⟩, TB_in 1113 (by decide +kernel) rfl⟩, List.forall_mem_cons.mpr ⟨⟨⟨by decide, by decide⟩, TB_in 1114 (by decide +kernel) rfl⟩, List.forall_mem_cons.mpr ⟨⟨⟨by decide, by decide⟩, TB_in 1122 (by decide +kernel) rfl⟩, List.forall_mem_cons.mpr ⟨⟨⟨by decide, by decide⟩, TB_in 1124 (by decide +kernel) rfl⟩, List.forall_mem_cons.mpr ⟨⟨⟨by decide, by decide⟩, TB_in 1133 (by decide +kernel) rfl⟩, List.forall_mem_cons.mpr ⟨⟨⟨by decide, by decide⟩, TB_in 1130 (by decide +kernel) rfl⟩, List.forall_mem_cons.mpr ⟨⟨⟨by decide, by decide⟩, TB_in 1129 (by decide +kernel) rfl⟩, List.forall_mem_cons.mpr ⟨⟨⟨by decide, by decide⟩, TB_in 1131 (by decide +kernel) rfl⟩, List.forall_mem_cons.mpr ⟨⟨⟨by decide, by decide⟩, TB_in 1136 (by decide +kernel) rfl⟩, List.forall_mem_cons.mpr ⟨⟨⟨by decide, by decide⟩, TB_in 1132 (by decide +kernel) rfl⟩, List.forall_mem_cons.mpr ⟨⟨⟨by decide, by decide⟩, TB_in 1127 (by decide +kernel) rfl⟩, List.forall_mem_cons.mpr ⟨⟨⟨by decide, by decide⟩, TB_in 1128 (by decide +kernel) rfl⟩, List.forall_mem_cons.mpr ⟨⟨⟨by decide, by decide⟩, TB_in 1138 (by decide +kernel) rfl⟩, List.forall_mem_cons.mpr ⟨⟨⟨by decide, by decide⟩, TB_in 1134 (by decide +kernel) rfl⟩, List.forall_mem_cons.mpr ⟨⟨⟨by decide, by decide⟩, TB_in 1135 (by decide +kernel) rfl⟩, fun _ h => absurd h List.not_mem_nil⟩⟩⟩⟩⟩⟩⟩⟩⟩⟩⟩⟩⟩⟩⟩⟩⟩⟩⟩⟩⟩⟩⟩⟩⟩⟩⟩⟩⟩⟩⟩⟩⟩⟩
theorem fF_11 : ∀ q ∈ flT 11, FF 11 q := fun _ h => absurd h List.not_mem_nil
theorem fF_12 : ∀ q ∈ flT 12, FF 12 q := fun _ h => absurd h List.not_mem_nil
theorem fF_13 : ∀ q ∈ flT 13, FF 13 q := fun _ h => absurd h List.not_mem_nil
theorem fF_all (own : Nat) (ho : own < 14) : ∀ q ∈ flT own, FF own q := by
  match own, ho with
  | 0, _ => exact fF_0
  | 1, _ => exact fF_1
  | 2, _ => exact fF_2
  | 3, _ => exact fF_3
  | 4, _ => exact fF_4
  | 5, _ => exact fF_5
  | 6, _ => exact fF_6
  | 7, _ => exact fF_7
  | 8, _ => exact fF_8
  | 9, _ => exact fF_9
  | 10, _ => exact fF_10
  | 11, _ => exact fF_11
  | 12, _ => exact fF_12
  | 13, _ => exact fF_13
  | n + 14, h => exact absurd h (by omega)
theorem fl_ok {own i c f : Nat} (ho : own < 14) (h : fl own i = some (c, f)) : FF own (i, c, f) := fF_all own ho _ (find_map h)
def okTy : FieldType → Bool
  | .int => true
  | .long => true
  | .object _ => true
  | .array _ => true
  | _ => false
def KF (c : Nat) : Prop := vwCl[c]? = some (RO c, TO c, NO c) ∧ (∀ w ∈ u_ws (RO c) (TO c) (NO c), w ∈ TB) ∧ (∀ f, f < NO c → parseFieldDescriptor (TO c f).2.2.1 = some (tyO c f) ∧ okTy (tyO c f) = true ∧ (TO c f).1 = RO c) ∧ (∀ a, a < NO c → ∀ b, b < NO c → a ≠ b → (TO c a).2.1 ≠ (TO c b).2.1) ∧ Cond.instantiable (RO c) (NO c) ∈ TB ∧ Cond.initialized (RO c) ∈ TB
theorem uw_0 : ∀ w ∈ u_ws (RO 0) (TO 0) (NO 0), w ∈ TB := List.forall_mem_cons.mpr ⟨TB_in 176 (by decide +kernel) rfl, List.forall_mem_cons.mpr ⟨TB_in 178 (by decide +kernel) rfl, fun _ h => absurd h List.not_mem_nil⟩⟩
theorem kf_0 : KF 0 := ⟨rfl, uw_0, by decide +kernel, by decide +kernel, TB_in 167 (by decide +kernel) rfl, TB_in 69 (by decide +kernel) rfl⟩
theorem uw_1 : ∀ w ∈ u_ws (RO 1) (TO 1) (NO 1), w ∈ TB := List.forall_mem_cons.mpr ⟨TB_in 280 (by decide +kernel) rfl, List.forall_mem_cons.mpr ⟨TB_in 282 (by decide +kernel) rfl, fun _ h => absurd h List.not_mem_nil⟩⟩
theorem kf_1 : KF 1 := ⟨rfl, uw_1, by decide +kernel, by decide +kernel, TB_in 271 (by decide +kernel) rfl, TB_in 71 (by decide +kernel) rfl⟩
theorem uw_2 : ∀ w ∈ u_ws (RO 2) (TO 2) (NO 2), w ∈ TB := List.forall_mem_cons.mpr ⟨TB_in 201 (by decide +kernel) rfl, List.forall_mem_cons.mpr ⟨TB_in 203 (by decide +kernel) rfl, List.forall_mem_cons.mpr ⟨TB_in 205 (by decide +kernel) rfl, List.forall_mem_cons.mpr ⟨TB_in 207 (by decide +kernel) rfl, List.forall_mem_cons.mpr ⟨TB_in 209 (by decide +kernel) rfl, List.forall_mem_cons.mpr ⟨TB_in 211 (by decide +kernel) rfl, List.forall_mem_cons.mpr ⟨TB_in 213 (by decide +kernel) rfl, List.forall_mem_cons.mpr ⟨TB_in 215 (by decide +kernel) rfl, List.forall_mem_cons.mpr ⟨TB_in 217 (by decide +kernel) rfl, List.forall_mem_cons.mpr ⟨TB_in 219 (by decide +kernel) rfl, List.forall_mem_cons.mpr ⟨TB_in 221 (by decide +kernel) rfl, List.forall_mem_cons.mpr ⟨TB_in 223 (by decide +kernel) rfl, List.forall_mem_cons.mpr ⟨TB_in 225 (by decide +kernel) rfl, List.forall_mem_cons.mpr ⟨TB_in 227 (by decide +kernel) rfl, List.forall_mem_cons.mpr ⟨TB_in 229 (by decide +kernel) rfl, fun _ h => absurd h List.not_mem_nil⟩⟩⟩⟩⟩⟩⟩⟩⟩⟩⟩⟩⟩⟩⟩
theorem kf_2 : KF 2 := ⟨rfl, uw_2, by decide +kernel, by decide +kernel, TB_in 92 (by decide +kernel) rfl, TB_in 67 (by decide +kernel) rfl⟩
theorem uw_3 : ∀ w ∈ u_ws (RO 3) (TO 3) (NO 3), w ∈ TB := List.forall_mem_cons.mpr ⟨TB_in 253 (by decide +kernel) rfl, List.forall_mem_cons.mpr ⟨TB_in 255 (by decide +kernel) rfl, List.forall_mem_cons.mpr ⟨TB_in 257 (by decide +kernel) rfl, List.forall_mem_cons.mpr ⟨TB_in 259 (by decide +kernel) rfl, List.forall_mem_cons.mpr ⟨TB_in 261 (by decide +kernel) rfl, List.forall_mem_cons.mpr ⟨TB_in 263 (by decide +kernel) rfl, List.forall_mem_cons.mpr ⟨TB_in 265 (by decide +kernel) rfl, List.forall_mem_cons.mpr ⟨TB_in 267 (by decide +kernel) rfl, fun _ h => absurd h List.not_mem_nil⟩⟩⟩⟩⟩⟩⟩⟩
theorem kf_3 : KF 3 := ⟨rfl, uw_3, by decide +kernel, by decide +kernel, TB_in 233 (by decide +kernel) rfl, TB_in 70 (by decide +kernel) rfl⟩
theorem uw_4 : ∀ w ∈ u_ws (RO 4) (TO 4) (NO 4), w ∈ TB := List.forall_mem_cons.mpr ⟨TB_in 137 (by decide +kernel) rfl, List.forall_mem_cons.mpr ⟨TB_in 139 (by decide +kernel) rfl, List.forall_mem_cons.mpr ⟨TB_in 141 (by decide +kernel) rfl, List.forall_mem_cons.mpr ⟨TB_in 143 (by decide +kernel) rfl, List.forall_mem_cons.mpr ⟨TB_in 145 (by decide +kernel) rfl, List.forall_mem_cons.mpr ⟨TB_in 147 (by decide +kernel) rfl, List.forall_mem_cons.mpr ⟨TB_in 149 (by decide +kernel) rfl, List.forall_mem_cons.mpr ⟨TB_in 151 (by decide +kernel) rfl, List.forall_mem_cons.mpr ⟨TB_in 153 (by decide +kernel) rfl, List.forall_mem_cons.mpr ⟨TB_in 155 (by decide +kernel) rfl, List.forall_mem_cons.mpr ⟨TB_in 157 (by decide +kernel) rfl, List.forall_mem_cons.mpr ⟨TB_in 159 (by decide +kernel) rfl, List.forall_mem_cons.mpr ⟨TB_in 161 (by decide +kernel) rfl, List.forall_mem_cons.mpr ⟨TB_in 163 (by decide +kernel) rfl, fun _ h => absurd h List.not_mem_nil⟩⟩⟩⟩⟩⟩⟩⟩⟩⟩⟩⟩⟩⟩
theorem kf_4 : KF 4 := ⟨rfl, uw_4, by decide +kernel, by decide +kernel, TB_in 101 (by decide +kernel) rfl, TB_in 68 (by decide +kernel) rfl⟩
theorem uw_5 : ∀ w ∈ u_ws (RO 5) (TO 5) (NO 5), w ∈ TB := List.forall_mem_cons.mpr ⟨TB_in 293 (by decide +kernel) rfl, List.forall_mem_cons.mpr ⟨TB_in 295 (by decide +kernel) rfl, List.forall_mem_cons.mpr ⟨TB_in 297 (by decide +kernel) rfl, List.forall_mem_cons.mpr ⟨TB_in 299 (by decide +kernel) rfl, List.forall_mem_cons.mpr ⟨TB_in 301 (by decide +kernel) rfl, List.forall_mem_cons.mpr ⟨TB_in 303 (by decide +kernel) rfl, fun _ h => absurd h List.not_mem_nil⟩⟩⟩⟩⟩⟩
theorem kf_5 : KF 5 := ⟨rfl, uw_5, by decide +kernel, by decide +kernel, TB_in 84 (by decide +kernel) rfl, TB_in 66 (by decide +kernel) rfl⟩
theorem uw_6 : ∀ w ∈ u_ws (RO 6) (TO 6) (NO 6), w ∈ TB := List.forall_mem_cons.mpr ⟨TB_in 1140 (by decide +kernel) rfl, List.forall_mem_cons.mpr ⟨TB_in 1142 (by decide +kernel) rfl, List.forall_mem_cons.mpr ⟨TB_in 1144 (by decide +kernel) rfl, List.forall_mem_cons.mpr ⟨TB_in 1146 (by decide +kernel) rfl, List.forall_mem_cons.mpr ⟨TB_in 1148 (by decide +kernel) rfl, List.forall_mem_cons.mpr ⟨TB_in 1150 (by decide +kernel) rfl, List.forall_mem_cons.mpr ⟨TB_in 1152 (by decide +kernel) rfl, List.forall_mem_cons.mpr ⟨TB_in 1154 (by decide +kernel) rfl, List.forall_mem_cons.mpr ⟨TB_in 1156 (by decide +kernel) rfl, List.forall_mem_cons.mpr ⟨TB_in 1158 (by decide +kernel) rfl, List.forall_mem_cons.mpr ⟨TB_in 1160 (by decide +kernel) rfl, List.forall_mem_cons.mpr ⟨TB_in 1162 (by decide +kernel) rfl, List.forall_mem_cons.mpr ⟨TB_in 1164 (by decide +kernel) rfl, List.forall_mem_cons.mpr ⟨TB_in 1166 (by decide +kernel) rfl, List.forall_mem_cons.mpr ⟨TB_in 1168 (by decide +kernel) rfl, List.forall_mem_cons.mpr ⟨TB_in 1170 (by decide +kernel) rfl, List.forall_mem_cons.mpr ⟨TB_in 1172 (by decide +kernel) rfl, List.forall_mem_cons.mpr ⟨TB_in 1174 (by decide +kernel) rfl, List.forall_mem_cons.mpr ⟨TB_in 1176 (by decide +kernel) rfl, List.forall_mem_cons.mpr ⟨TB_in 1178 (by decide +kernel) rfl, List.forall_mem_cons.mpr ⟨TB_in 1180 (by decide +kernel) rfl, List.forall_mem_cons.mpr ⟨TB_in 1182 (by decide +kernel) rfl, List.forall_mem_cons.mpr ⟨TB_in 1184 (by decide +kernel) rfl, List.forall_mem_cons.mpr ⟨TB_in 1186 (by decide +kernel) rfl, List.forall_mem_cons.mpr ⟨TB_in 1188 (by decide +kernel) rfl, List.forall_mem_cons.mpr ⟨TB_in 1190 (by decide +kernel) rfl, List.forall_mem_cons.mpr ⟨TB_in 1192 (by decide +kernel) rfl, List.forall_mem_cons.mpr ⟨TB_in 1194 (by decide +kernel) rfl, List.forall_mem_cons.mpr ⟨TB_in 1196 (by decide +kernel) rfl, List.forall_mem_cons.mpr ⟨TB_in 1198 (by decide +kernel) rfl, List.forall_mem_cons.mpr ⟨TB_in 1200 (by decide +kernel) rfl, List.forall_mem_cons.mpr ⟨TB_in 1202 (by decide +kernel) rfl, List.forall_mem_cons.mpr ⟨TB_in 1204 (by decide +kernel) rfl, List.forall_mem_cons.mpr ⟨TB_in 1206 (by decide +kernel) rfl, fun _ h => absurd h List.not_mem_nil⟩⟩⟩⟩⟩⟩⟩⟩⟩⟩⟩⟩⟩⟩⟩⟩⟩⟩⟩⟩⟩⟩⟩⟩⟩⟩⟩⟩⟩⟩⟩⟩⟩⟩
theorem kf_6 : KF 6 := ⟨rfl, uw_6, by decide +kernel, by decide +kernel, TB_in 1088 (by decide +kernel) rfl, TB_in 72 (by decide +kernel) rfl⟩
theorem kf_all (c : Nat) (hc : c < 7) : KF c := by
  match c, hc with
  | 0, _ => exact kf_0
  | 1, _ => exact kf_1
  | 2, _ => exact kf_2
  | 3, _ => exact kf_3
  | 4, _ => exact kf_4
  | 5, _ => exact kf_5
  | 6, _ => exact kf_6
  | n + 7, h => exact absurd h (by omega)
def CF (own : Nat) (q : Nat × Nat) : Prop := q.2 < 7 ∧ Cond.classLink (RN own) q.1 (RO q.2) ∈ TB
def IF (own : Nat) (q : Nat × Int32) : Prop := Cond.constant (RN own) q.1 q.2 ∈ TB
def JF (own : Nat) (q : Nat × Int64) : Prop := Cond.constantLong (RN own) q.1 q.2 ∈ TB
theorem cF_0 : ∀ q ∈ clT 0, CF 0 q := fun _ h => absurd h List.not_mem_nil
theorem cF_1 : ∀ q ∈ clT 1, CF 1 q := fun _ h => absurd h List.not_mem_nil
theorem cF_2 : ∀ q ∈ clT 2, CF 2 q := fun _ h => absurd h List.not_mem_nil
theorem cF_3 : ∀ q ∈ clT 3, CF 3 q := fun _ h => absurd h List.not_mem_nil
theorem cF_4 : ∀ q ∈ clT 4, CF 4 q := fun _ h => absurd h List.not_mem_nil
theorem cF_5 : ∀ q ∈ clT 5, CF 5 q := List.forall_mem_cons.mpr ⟨⟨by decide, TB_in 97 (by decide +kernel) rfl⟩, List.forall_mem_cons.mpr ⟨⟨by decide, TB_in 99 (by decide +kernel) rfl⟩, fun _ h => absurd h List.not_mem_nil⟩⟩
theorem cF_6 : ∀ q ∈ clT 6, CF 6 q := List.forall_mem_cons.mpr ⟨⟨by decide, TB_in 238 (by decide +kernel) rfl⟩, List.forall_mem_cons.mpr ⟨⟨by decide, TB_in 239 (by decide +kernel) rfl⟩, fun _ h => absurd h List.not_mem_nil⟩⟩
theorem cF_7 : ∀ q ∈ clT 7, CF 7 q := fun _ h => absurd h List.not_mem_nil
theorem cF_8 : ∀ q ∈ clT 8, CF 8 q := fun _ h => absurd h List.not_mem_nil
theorem cF_9 : ∀ q ∈ clT 9, CF 9 q := List.forall_mem_cons.mpr ⟨⟨by decide, TB_in 91 (by decide +kernel) rfl⟩, List.forall_mem_cons.mpr ⟨⟨by decide, TB_in 232 (by decide +kernel) rfl⟩, List.forall_mem_cons.mpr ⟨⟨by decide, TB_in 270 (by decide +kernel) rfl⟩, List.forall_mem_cons.mpr ⟨⟨by decide, TB_in 285 (by decide +kernel) rfl⟩, fun _ h => absurd h List.not_mem_nil⟩⟩⟩⟩
theorem cF_10 : ∀ q ∈ clT 10, CF 10 q := fun _ h => absurd h List.not_mem_nil
theorem cF_11 : ∀ q ∈ clT 11, CF 11 q := List.forall_mem_cons.mpr ⟨⟨by decide, TB_in 83 (by decide +kernel) rfl⟩, List.forall_mem_cons.mpr ⟨⟨by decide, TB_in 1087 (by decide +kernel) rfl⟩, fun _ h => absurd h List.not_mem_nil⟩⟩
theorem cF_12 : ∀ q ∈ clT 12, CF 12 q := fun _ h => absurd h List.not_mem_nil
theorem cF_13 : ∀ q ∈ clT 13, CF 13 q := fun _ h => absurd h List.not_mem_nil
theorem cF_all (own : Nat) (ho : own < 14) : ∀ q ∈ clT own, CF own q := by
  match own, ho with
  | 0, _ => exact cF_0
  | 1, _ => exact cF_1
  | 2, _ => exact cF_2
  | 3, _ => exact cF_3
  | 4, _ => exact cF_4
  | 5, _ => exact cF_5
  | 6, _ => exact cF_6
  | 7, _ => exact cF_7
  | 8, _ => exact cF_8
  | 9, _ => exact cF_9
  | 10, _ => exact cF_10
  | 11, _ => exact cF_11
  | 12, _ => exact cF_12
  | 13, _ => exact cF_13
  | n + 14, h => exact absurd h (by omega)
theorem cl_ok {own i : Nat} {x : Nat} (ho : own < 14) (h : cl own i = some x) : CF own (i, x) := cF_all own ho _ (find_map h)
theorem iF_0 : ∀ q ∈ kiT 0, IF 0 q := fun _ h => absurd h List.not_mem_nil
theorem iF_1 : ∀ q ∈ kiT 1, IF 1 q := fun _ h => absurd h List.not_mem_nil
theorem iF_2 : ∀ q ∈ kiT 2, IF 2 q := fun _ h => absurd h List.not_mem_nil
theorem iF_3 : ∀ q ∈ kiT 3, IF 3 q := fun _ h => absurd h List.not_mem_nil
theorem iF_4 : ∀ q ∈ kiT 4, IF 4 q := List.forall_mem_cons.mpr ⟨TB_in 1080 (by decide +kernel) rfl, fun _ h => absurd h List.not_mem_nil⟩
theorem iF_5 : ∀ q ∈ kiT 5, IF 5 q := fun _ h => absurd h List.not_mem_nil
theorem iF_6 : ∀ q ∈ kiT 6, IF 6 q := fun _ h => absurd h List.not_mem_nil
theorem iF_7 : ∀ q ∈ kiT 7, IF 7 q := List.forall_mem_cons.mpr ⟨TB_in 472 (by decide +kernel) rfl, fun _ h => absurd h List.not_mem_nil⟩
theorem iF_8 : ∀ q ∈ kiT 8, IF 8 q := fun _ h => absurd h List.not_mem_nil
theorem iF_9 : ∀ q ∈ kiT 9, IF 9 q := fun _ h => absurd h List.not_mem_nil
theorem iF_10 : ∀ q ∈ kiT 10, IF 10 q := List.forall_mem_cons.mpr ⟨TB_in 1093 (by decide +kernel) rfl, List.forall_mem_cons.mpr ⟨TB_in 1280 (by decide +kernel) rfl, List.forall_mem_cons.mpr ⟨TB_in 1465 (by decide +kernel) rfl, fun _ h => absurd h List.not_mem_nil⟩⟩⟩
theorem iF_11 : ∀ q ∈ kiT 11, IF 11 q := fun _ h => absurd h List.not_mem_nil
theorem iF_12 : ∀ q ∈ kiT 12, IF 12 q := fun _ h => absurd h List.not_mem_nil
theorem iF_13 : ∀ q ∈ kiT 13, IF 13 q := fun _ h => absurd h List.not_mem_nil
theorem iF_all (own : Nat) (ho : own < 14) : ∀ q ∈ kiT own, IF own q := by
  match own, ho with
  | 0, _ => exact iF_0
  | 1, _ => exact iF_1
  | 2, _ => exact iF_2
  | 3, _ => exact iF_3
  | 4, _ => exact iF_4
  | 5, _ => exact iF_5
  | 6, _ => exact iF_6
  | 7, _ => exact iF_7
  | 8, _ => exact iF_8
  | 9, _ => exact iF_9
  | 10, _ => exact iF_10
  | 11, _ => exact iF_11
  | 12, _ => exact iF_12
  | 13, _ => exact iF_13
  | n + 14, h => exact absurd h (by omega)
theorem ki_ok {own i : Nat} {x : Int32} (ho : own < 14) (h : ki own i = some x) : IF own (i, x) := iF_all own ho _ (find_map h)
theorem jF_0 : ∀ q ∈ klT 0, JF 0 q := fun _ h => absurd h List.not_mem_nil
theorem jF_1 : ∀ q ∈ klT 1, JF 1 q := fun _ h => absurd h List.not_mem_nil
theorem jF_2 : ∀ q ∈ klT 2, JF 2 q := fun _ h => absurd h List.not_mem_nil
theorem jF_3 : ∀ q ∈ klT 3, JF 3 q := fun _ h => absurd h List.not_mem_nil
theorem jF_4 : ∀ q ∈ klT 4, JF 4 q := fun _ h => absurd h List.not_mem_nil
theorem jF_5 : ∀ q ∈ klT 5, JF 5 q := fun _ h => absurd h List.not_mem_nil
theorem jF_6 : ∀ q ∈ klT 6, JF 6 q := fun _ h => absurd h List.not_mem_nil
theorem jF_7 : ∀ q ∈ klT 7, JF 7 q := fun _ h => absurd h List.not_mem_nil
theorem jF_8 : ∀ q ∈ klT 8, JF 8 q := List.forall_mem_cons.mpr ⟨TB_in 897 (by decide +kernel) rfl, fun _ h => absurd h List.not_mem_nil⟩
theorem jF_9 : ∀ q ∈ klT 9, JF 9 q := fun _ h => absurd h List.not_mem_nil
theorem jF_10 : ∀ q ∈ klT 10, JF 10 q := List.forall_mem_cons.mpr ⟨TB_in 1094 (by decide +kernel) rfl, List.forall_mem_cons.mpr ⟨TB_in 1095 (by decide +kernel) rfl, List.forall_mem_cons.mpr ⟨TB_in 1096 (by decide +kernel) rfl, List.forall_mem_cons.mpr ⟨TB_in 1097 (by decide +kernel) rfl, List.forall_mem_cons.mpr ⟨TB_in 1098 (by decide +kernel) rfl, List.forall_mem_cons.mpr ⟨TB_in 1099 (by decide +kernel) rfl, List.forall_mem_cons.mpr ⟨TB_in 1100 (by decide +kernel) rfl, List.forall_mem_cons.mpr ⟨TB_in 1101 (by decide +kernel) rfl, List.forall_mem_cons.mpr ⟨TB_in 1102 (by decide +kernel) rfl, List.forall_mem_cons.mpr ⟨TB_in 1103 (by decide +kernel) rfl, List.forall_mem_cons.mpr ⟨TB_in 1104 (by decide +kernel) rfl, List.forall_mem_cons.mpr ⟨TB_in 1105 (by decide +kernel) rfl, List.forall_mem_cons.mpr ⟨TB_in 1219 (by decide +kernel) rfl, List.forall_mem_cons.mpr ⟨TB_in 1231 (by decide +kernel) rfl, List.forall_mem_cons.mpr ⟨TB_in 1313 (by decide +kernel) rfl, List.forall_mem_cons.mpr ⟨TB_in 1322 (by decide +kernel) rfl, List.forall_mem_cons.mpr ⟨TB_in 1323 (by decide +kernel) rfl, List.forall_mem_cons.mpr ⟨TB_in 1324 (by decide +kernel) rfl, List.forall_mem_cons.mpr ⟨TB_in 1502 (by decide +kernel) rfl, List.forall_mem_cons.mpr ⟨TB_in 1555 (by decide +kernel) rfl, List.forall_mem_cons.mpr ⟨TB_in 1572 (by decide +kernel) rfl, List.forall_mem_cons.mpr ⟨TB_in 1641 (by decide +kernel) rfl, List.forall_mem_cons.mpr ⟨TB_in 1642 (by decide +kernel) rfl, List.forall_mem_cons.mpr ⟨TB_in 1687 (by decide +kernel) rfl, fun _ h => absurd h List.not_mem_nil⟩⟩⟩⟩⟩⟩⟩⟩⟩⟩⟩⟩⟩⟩⟩⟩⟩⟩⟩⟩⟩⟩⟩⟩
theorem jF_11 : ∀ q ∈ klT 11, JF 11 q := fun _ h => absurd h List.not_mem_nil
theorem jF_12 : ∀ q ∈ klT 12, JF 12 q := fun _ h => absurd h List.not_mem_nil
theorem jF_13 : ∀ q ∈ klT 13, JF 13 q := fun _ h => absurd h List.not_mem_nil
theorem jF_all (own : Nat) (ho : own < 14) : ∀ q ∈ klT own, JF own q := by
  match own, ho with
  | 0, _ => exact jF_0
  | 1, _ => exact jF_1
  | 2, _ => exact jF_2
  | 3, _ => exact jF_3
  | 4, _ => exact jF_4
  | 5, _ => exact jF_5
  | 6, _ => exact jF_6
  | 7, _ => exact jF_7
  | 8, _ => exact jF_8
  | 9, _ => exact jF_9
  | 10, _ => exact jF_10
  | 11, _ => exact jF_11
  | 12, _ => exact jF_12
  | 13, _ => exact jF_13
  | n + 14, h => exact absurd h (by omega)
theorem kl_ok {own i : Nat} {x : Int64} (ho : own < 14) (h : kl own i = some x) : JF own (i, x) := jF_all own ho _ (find_map h)
theorem ob_ok (own : Nat) (ho : own < 14) (h : ob own ≠ 0) : Cond.methodLink (RN own) (ob own) Lib.objectInit ∈ TB := by
  match own, ho, h with
  | 0, _, h => exact absurd rfl h
  | 1, _, h => exact absurd rfl h
  | 2, _, _ => exact TB_in 171 (by decide +kernel) rfl
  | 3, _, h => exact absurd rfl h
  | 4, _, _ => exact TB_in 275 (by decide +kernel) rfl
  | 5, _, _ => exact TB_in 96 (by decide +kernel) rfl
  | 6, _, _ => exact TB_in 237 (by decide +kernel) rfl
  | 7, _, _ => exact TB_in 105 (by decide +kernel) rfl
  | 8, _, h => exact absurd rfl h
  | 9, _, _ => exact TB_in 88 (by decide +kernel) rfl
  | 10, _, _ => exact TB_in 1092 (by decide +kernel) rfl
  | 11, _, h => exact absurd rfl h
  | 12, _, h => exact absurd rfl h
  | 13, _, h => exact absurd rfl h
  | n + 14, h, _ => exact absurd h (by omega)

theorem mmin_w : Cond.static Lib.Math.min.name ∈ TB ∧ Cond.code Lib.Math.min.name Lib.Math.min.code 2 (some .int) ∈ TB ∧ Lib.Math.min.name = m_y MJ9_min_7cf53 := ⟨TB_in 948 (by decide +kernel) rfl, TB_in 949 (by decide +kernel) rfl, by decide⟩
theorem mmax_w : Cond.static Lib.Math.max.name ∈ TB ∧ Cond.code Lib.Math.max.name Lib.Math.max.code 2 (some .int) ∈ TB ∧ Lib.Math.max.name = m_y MJ9_max_7cf53 := ⟨TB_in 853 (by decide +kernel) rfl, TB_in 854 (by decide +kernel) rfl, by decide⟩
theorem obI : Cond.instanceMethod Lib.objectInit ∈ TB := TB_in 89 (by decide +kernel) rfl
theorem obC : Cond.code Lib.objectInit ⟨#[0xb1]⟩ 1 none ∈ TB := TB_in 90 (by decide +kernel) rfl
theorem ac_int : Cond.arrayClass .int ∈ TB := TB_in 166 (by decide +kernel) rfl
theorem ac_byte : Cond.arrayClass .byte ∈ TB := TB_in 538 (by decide +kernel) rfl
theorem ac_boolean : Cond.arrayClass .boolean ∈ TB := TB_in 1209 (by decide +kernel) rfl
theorem ac_long : Cond.arrayClass .long ∈ TB := TB_in 1210 (by decide +kernel) rfl
