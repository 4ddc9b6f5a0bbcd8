/-! The premises of the start, by their places. -/
def stX : List String := ["sieve", "list", "from", "by", "many", "lucky", "flavius", "ludic", "prime", "fixed", "told", "rounds", "fixed ", " rounds ", "told ", "sieve ", " from ", " by ", " many ", "list l "]
def stW : List Nat := [508, 546, 536, 537, 538, 539, 540, 541, 542, 543, 545, 544, 802, 803, 804, 654, 769, 795, 796, 805]
theorem stW_ok : ∀ i, i < 20 → lw_tbl[stW.getD i 0]? = some (Cond.stringRef (kO i) (kP i) (stX.getD i "")) := by decide +kernel
def tm (i : Nat) : Term := Term.string (kO i) (kP i)
def FL : List Cond := (flatC (Jvm.Cond.and given_1 narrow_1))
theorem pm_ex0 : ∀ i, i < 20 → FL[([236, 387, 245, 254, 262, 273, 286, 302, 317, 333, 369, 350, 498, 524, 553, 406, 428, 451, 473, 580] : List Nat).getD i 0]? = some (Cond.exactly (tm i) "java/lang/String") := by decide +kernel
theorem pm_ex : ∀ i, i < 20 → Cond.exactly (tm i) "java/lang/String" ∈ (flatC (Jvm.Cond.and given_1 narrow_1)) := fun i hi => List.mem_of_getElem? (pm_ex0 i hi)
theorem pm_co0 : ∀ i, i < 20 → FL[([237, 388, 246, 255, 263, 274, 287, 303, 318, 334, 370, 351, 499, 525, 554, 407, 429, 452, 474, 581] : List Nat).getD i 0]? = some (Cond.eq (.field (tm i) "java/lang/String" "coder" "B") (.int 0)) := by decide +kernel
theorem pm_co : ∀ i, i < 20 → Cond.eq (.field (tm i) "java/lang/String" "coder" "B") (.int 0) ∈ (flatC (Jvm.Cond.and given_1 narrow_1)) := fun i hi => List.mem_of_getElem? (pm_co0 i hi)
theorem pm_ar0 : ∀ i, i < 20 → FL[([238, 389, 247, 256, 264, 275, 288, 304, 319, 335, 371, 352, 500, 526, 555, 408, 430, 453, 475, 582] : List Nat).getD i 0]? = some (Cond.arrayOf (.field (tm i) "java/lang/String" "value" "[B") .byte) := by decide +kernel
theorem pm_ar : ∀ i, i < 20 → Cond.arrayOf (.field (tm i) "java/lang/String" "value" "[B") .byte ∈ (flatC (Jvm.Cond.and given_1 narrow_1)) := fun i hi => List.mem_of_getElem? (pm_ar0 i hi)
theorem pm_le0 : ∀ i, i < 20 → FL[([239, 390, 248, 257, 265, 276, 289, 305, 320, 336, 372, 353, 501, 527, 556, 409, 431, 454, 476, 583] : List Nat).getD i 0]? = some (Cond.eq (.length (.field (tm i) "java/lang/String" "value" "[B")) (.int (Int32.ofNat (slen.getD i 0)))) := by decide +kernel
theorem pm_le : ∀ i, i < 20 → Cond.eq (.length (.field (tm i) "java/lang/String" "value" "[B")) (.int (Int32.ofNat (slen.getD i 0))) ∈ (flatC (Jvm.Cond.and given_1 narrow_1)) := fun i hi => List.mem_of_getElem? (pm_le0 i hi)
def pxE : List (List Nat) := [[240, 241, 242, 243, 244], [391, 392, 393, 394], [249, 250, 251, 252], [258, 259], [266, 267, 268, 269], [277, 278, 279, 280, 281], [290, 291, 292, 293, 294, 295, 296], [306, 307, 308, 309, 310], [321, 322, 323, 324, 325], [337, 338, 339, 340, 341], [373, 374, 375, 376], [354, 355, 356, 357, 358, 359], [502, 503, 504, 505, 506, 507], [528, 529, 530, 531, 532, 533, 534, 535], [557, 558, 559, 560, 561], [410, 411, 412, 413, 414, 415], [432, 433, 434, 435, 436, 437], [455, 456, 457, 458], [477, 478, 479, 480, 481, 482], [584, 585, 586, 587, 588, 589, 590]]
theorem pm_el0 : ∀ i, i < 20 → ∀ j, j < slen.getD i 0 → FL[(pxE.getD i []).getD j 0]? = some (Cond.eq (.elem (.field (tm i) "java/lang/String" "value" "[B") (.int (Int32.ofNat j))) (.int ((bL.getD i []).getD j 0))) := by decide +kernel
theorem pm_el : ∀ i, i < 20 → ∀ j, j < slen.getD i 0 → Cond.eq (.elem (.field (tm i) "java/lang/String" "value" "[B") (.int (Int32.ofNat j))) (.int ((bL.getD i []).getD j 0)) ∈ (flatC (Jvm.Cond.and given_1 narrow_1)) := fun i hi j hj => List.mem_of_getElem? (pm_el0 i hi j hj)
def pxN : List (List Nat) := [[0, 395, 253, 260, 270, 282, 297, 311, 326, 342, 377, 360, 508, 536, 562, 416, 438, 459, 483, 591], [395, 0, 396, 397, 398, 399, 400, 401, 402, 403, 405, 404, 519, 547, 573, 427, 449, 470, 494, 602], [253, 396, 0, 261, 271, 283, 298, 312, 327, 343, 378, 361, 509, 537, 563, 417, 439, 460, 484, 592], [260, 397, 261, 0, 272, 284, 299, 313, 328, 344, 379, 362, 510, 538, 564, 418, 440, 461, 485, 593], [270, 398, 271, 272, 0, 285, 300, 314, 329, 345, 380, 363, 511, 539, 565, 419, 441, 462, 486, 594], [282, 399, 283, 284, 285, 0, 301, 315, 330, 346, 381, 364, 512, 540, 566, 420, 442, 463, 487, 595], [297, 400, 298, 299, 300, 301, 0, 316, 331, 347, 382, 365, 513, 541, 567, 421, 443, 464, 488, 596], [311, 401, 312, 313, 314, 315, 316, 0, 332, 348, 383, 366, 514, 542, 568, 422, 444, 465, 489, 597], [326, 402, 327, 328, 329, 330, 331, 332, 0, 349, 384, 367, 515, 543, 569, 423, 445, 466, 490, 598], [342, 403, 343, 344, 345, 346, 347, 348, 349, 0, 385, 368, 516, 544, 570, 424, 446, 467, 491, 599], [377, 405, 378, 379, 380, 381, 382, 383, 384, 385, 0, 386, 518, 546, 572, 426, 448, 469, 493, 601], [360, 404, 361, 362, 363, 364, 365, 366, 367, 368, 386, 0, 517, 545, 571, 425, 447, 468, 492, 600], [508, 519, 509, 510, 511, 512, 513, 514, 515, 516, 518, 517, 0, 552, 578, 520, 521, 522, 523, 607], [536, 547, 537, 538, 539, 540, 541, 542, 543, 544, 546, 545, 552, 0, 579, 548, 549, 550, 551, 608], [562, 573, 563, 564, 565, 566, 567, 568, 569, 570, 572, 571, 578, 579, 0, 574, 575, 576, 577, 609], [416, 427, 417, 418, 419, 420, 421, 422, 423, 424, 426, 425, 520, 548, 574, 0, 450, 471, 495, 603], [438, 449, 439, 440, 441, 442, 443, 444, 445, 446, 448, 447, 521, 549, 575, 450, 0, 472, 496, 604], [459, 470, 460, 461, 462, 463, 464, 465, 466, 467, 469, 468, 522, 550, 576, 471, 472, 0, 497, 605], [483, 494, 484, 485, 486, 487, 488, 489, 490, 491, 493, 492, 523, 551, 577, 495, 496, 497, 0, 606], [591, 602, 592, 593, 594, 595, 596, 597, 598, 599, 601, 600, 607, 608, 609, 603, 604, 605, 606, 0]]
theorem pm_ne_0 : ∀ j, j < 20 → 0 ≠ j → FL[(pxN.getD 0 []).getD j 0]? = some (Cond.not (Cond.eq (tm 0) (tm j))) ∨ FL[(pxN.getD 0 []).getD j 0]? = some (Cond.not (Cond.eq (tm j) (tm 0))) := by decide +kernel
theorem pm_ne_1 : ∀ j, j < 20 → 1 ≠ j → FL[(pxN.getD 1 []).getD j 0]? = some (Cond.not (Cond.eq (tm 1) (tm j))) ∨ FL[(pxN.getD 1 []).getD j 0]? = some (Cond.not (Cond.eq (tm j) (tm 1))) := by decide +kernel
theorem pm_ne_2 : ∀ j, j < 20 → 2 ≠ j → FL[(pxN.getD 2 []).getD j 0]? = some (Cond.not (Cond.eq (tm 2) (tm j))) ∨ FL[(pxN.getD 2 []).getD j 0]? = some (Cond.not (Cond.eq (tm j) (tm 2))) := by decide +kernel
theorem pm_ne_3 : ∀ j, j < 20 → 3 ≠ j → FL[(pxN.getD 3 []).getD j 0]? = some (Cond.not (Cond.eq (tm 3) (tm j))) ∨ FL[(pxN.getD 3 []).getD j 0]? = some (Cond.not (Cond.eq (tm j) (tm 3))) := by decide +kernel
theorem pm_ne_4 : ∀ j, j < 20 → 4 ≠ j → FL[(pxN.getD 4 []).getD j 0]? = some (Cond.not (Cond.eq (tm 4) (tm j))) ∨ FL[(pxN.getD 4 []).getD j 0]? = some (Cond.not (Cond.eq (tm j) (tm 4))) := by decide +kernel
theorem pm_ne_5 : ∀ j, j < 20 → 5 ≠ j → FL[(pxN.getD 5 []).getD j 0]? = some (Cond.not (Cond.eq (tm 5) (tm j))) ∨ FL[(pxN.getD 5 []).getD j 0]? = some (Cond.not (Cond.eq (tm j) (tm 5))) := by decide +kernel
theorem pm_ne_6 : ∀ j, j < 20 → 6 ≠ j → FL[(pxN.getD 6 []).getD j 0]? = some (Cond.not (Cond.eq (tm 6) (tm j))) ∨ FL[(pxN.getD 6 []).getD j 0]? = some (Cond.not (Cond.eq (tm j) (tm 6))) := by decide +kernel
theorem pm_ne_7 : ∀ j, j < 20 → 7 ≠ j → FL[(pxN.getD 7 []).getD j 0]? = some (Cond.not (Cond.eq (tm 7) (tm j))) ∨ FL[(pxN.getD 7 []).getD j 0]? = some (Cond.not (Cond.eq (tm j) (tm 7))) := by decide +kernel
theorem pm_ne_8 : ∀ j, j < 20 → 8 ≠ j → FL[(pxN.getD 8 []).getD j 0]? = some (Cond.not (Cond.eq (tm 8) (tm j))) ∨ FL[(pxN.getD 8 []).getD j 0]? = some (Cond.not (Cond.eq (tm j) (tm 8))) := by decide +kernel
theorem pm_ne_9 : ∀ j, j < 20 → 9 ≠ j → FL[(pxN.getD 9 []).getD j 0]? = some (Cond.not (Cond.eq (tm 9) (tm j))) ∨ FL[(pxN.getD 9 []).getD j 0]? = some (Cond.not (Cond.eq (tm j) (tm 9))) := by decide +kernel
theorem pm_ne_10 : ∀ j, j < 20 → 10 ≠ j → FL[(pxN.getD 10 []).getD j 0]? = some (Cond.not (Cond.eq (tm 10) (tm j))) ∨ FL[(pxN.getD 10 []).getD j 0]? = some (Cond.not (Cond.eq (tm j) (tm 10))) := by decide +kernel
theorem pm_ne_11 : ∀ j, j < 20 → 11 ≠ j → FL[(pxN.getD 11 []).getD j 0]? = some (Cond.not (Cond.eq (tm 11) (tm j))) ∨ FL[(pxN.getD 11 []).getD j 0]? = some (Cond.not (Cond.eq (tm j) (tm 11))) := by decide +kernel
theorem pm_ne_12 : ∀ j, j < 20 → 12 ≠ j → FL[(pxN.getD 12 []).getD j 0]? = some (Cond.not (Cond.eq (tm 12) (tm j))) ∨ FL[(pxN.getD 12 []).getD j 0]? = some (Cond.not (Cond.eq (tm j) (tm 12))) := by decide +kernel
theorem pm_ne_13 : ∀ j, j < 20 → 13 ≠ j → FL[(pxN.getD 13 []).getD j 0]? = some (Cond.not (Cond.eq (tm 13) (tm j))) ∨ FL[(pxN.getD 13 []).getD j 0]? = some (Cond.not (Cond.eq (tm j) (tm 13))) := by decide +kernel
theorem pm_ne_14 : ∀ j, j < 20 → 14 ≠ j → FL[(pxN.getD 14 []).getD j 0]? = some (Cond.not (Cond.eq (tm 14) (tm j))) ∨ FL[(pxN.getD 14 []).getD j 0]? = some (Cond.not (Cond.eq (tm j) (tm 14))) := by decide +kernel
theorem pm_ne_15 : ∀ j, j < 20 → 15 ≠ j → FL[(pxN.getD 15 []).getD j 0]? = some (Cond.not (Cond.eq (tm 15) (tm j))) ∨ FL[(pxN.getD 15 []).getD j 0]? = some (Cond.not (Cond.eq (tm j) (tm 15))) := by decide +kernel
theorem pm_ne_16 : ∀ j, j < 20 → 16 ≠ j → FL[(pxN.getD 16 []).getD j 0]? = some (Cond.not (Cond.eq (tm 16) (tm j))) ∨ FL[(pxN.getD 16 []).getD j 0]? = some (Cond.not (Cond.eq (tm j) (tm 16))) := by decide +kernel
theorem pm_ne_17 : ∀ j, j < 20 → 17 ≠ j → FL[(pxN.getD 17 []).getD j 0]? = some (Cond.not (Cond.eq (tm 17) (tm j))) ∨ FL[(pxN.getD 17 []).getD j 0]? = some (Cond.not (Cond.eq (tm j) (tm 17))) := by decide +kernel
theorem pm_ne_18 : ∀ j, j < 20 → 18 ≠ j → FL[(pxN.getD 18 []).getD j 0]? = some (Cond.not (Cond.eq (tm 18) (tm j))) ∨ FL[(pxN.getD 18 []).getD j 0]? = some (Cond.not (Cond.eq (tm j) (tm 18))) := by decide +kernel
theorem pm_ne_19 : ∀ j, j < 20 → 19 ≠ j → FL[(pxN.getD 19 []).getD j 0]? = some (Cond.not (Cond.eq (tm 19) (tm j))) ∨ FL[(pxN.getD 19 []).getD j 0]? = some (Cond.not (Cond.eq (tm j) (tm 19))) := by decide +kernel
theorem pm_ne : ∀ i, i < 20 → ∀ j, j < 20 → i ≠ j → Cond.not (Cond.eq (tm i) (tm j)) ∈ (flatC (Jvm.Cond.and given_1 narrow_1)) ∨ Cond.not (Cond.eq (tm j) (tm i)) ∈ (flatC (Jvm.Cond.and given_1 narrow_1)) := fun i hi j hj h =>
  match i, hi, h with
  | 0, _, h => (pm_ne_0 j hj h).imp List.mem_of_getElem? List.mem_of_getElem?
  | 1, _, h => (pm_ne_1 j hj h).imp List.mem_of_getElem? List.mem_of_getElem?
  | 2, _, h => (pm_ne_2 j hj h).imp List.mem_of_getElem? List.mem_of_getElem?
  | 3, _, h => (pm_ne_3 j hj h).imp List.mem_of_getElem? List.mem_of_getElem?
  | 4, _, h => (pm_ne_4 j hj h).imp List.mem_of_getElem? List.mem_of_getElem?
  | 5, _, h => (pm_ne_5 j hj h).imp List.mem_of_getElem? List.mem_of_getElem?
  | 6, _, h => (pm_ne_6 j hj h).imp List.mem_of_getElem? List.mem_of_getElem?
  | 7, _, h => (pm_ne_7 j hj h).imp List.mem_of_getElem? List.mem_of_getElem?
  | 8, _, h => (pm_ne_8 j hj h).imp List.mem_of_getElem? List.mem_of_getElem?
  | 9, _, h => (pm_ne_9 j hj h).imp List.mem_of_getElem? List.mem_of_getElem?
  | 10, _, h => (pm_ne_10 j hj h).imp List.mem_of_getElem? List.mem_of_getElem?
  | 11, _, h => (pm_ne_11 j hj h).imp List.mem_of_getElem? List.mem_of_getElem?
  | 12, _, h => (pm_ne_12 j hj h).imp List.mem_of_getElem? List.mem_of_getElem?
  | 13, _, h => (pm_ne_13 j hj h).imp List.mem_of_getElem? List.mem_of_getElem?
  | 14, _, h => (pm_ne_14 j hj h).imp List.mem_of_getElem? List.mem_of_getElem?
  | 15, _, h => (pm_ne_15 j hj h).imp List.mem_of_getElem? List.mem_of_getElem?
  | 16, _, h => (pm_ne_16 j hj h).imp List.mem_of_getElem? List.mem_of_getElem?
  | 17, _, h => (pm_ne_17 j hj h).imp List.mem_of_getElem? List.mem_of_getElem?
  | 18, _, h => (pm_ne_18 j hj h).imp List.mem_of_getElem? List.mem_of_getElem?
  | 19, _, h => (pm_ne_19 j hj h).imp List.mem_of_getElem? List.mem_of_getElem?
  | i + 20, hi, _ => absurd hi (by omega)
theorem pm_cs : Cond.eq (.static "java/lang/String" "COMPACT_STRINGS" "Z") (.int 1) ∈ (flatC (Jvm.Cond.and given_1 narrow_1)) := List.mem_of_getElem? (i := 4) (by decide +kernel)
theorem pm_si : Cond.isRef (.static "jdk/internal/util/Preconditions" "SIOOBE_FORMATTER" "Ljava/util/function/BiFunction;") ∈ (flatC (Jvm.Cond.and given_1 narrow_1)) := List.mem_of_getElem? (i := 5) (by decide +kernel)
/-- the digits' tables -/
def tD (k : Nat) : Term := if k = 0 then Term.static "java/lang/Integer" "DigitOnes" "[B" else Term.static "java/lang/Integer" "DigitTens" "[B"
theorem pm_da0 : ∀ k, k < 2 → FL[([10, 113] : List Nat).getD k 0]? = some (Cond.arrayOf (tD k) .byte) ∧ FL[([11, 114] : List Nat).getD k 0]? = some (Cond.eq (.length (tD k)) (.int (Int32.ofNat (slen.getD (20 + k) 0)))) := by decide +kernel
theorem pm_da : ∀ k, k < 2 → Cond.arrayOf (tD k) .byte ∈ (flatC (Jvm.Cond.and given_1 narrow_1)) ∧ Cond.eq (.length (tD k)) (.int (Int32.ofNat (slen.getD (20 + k) 0))) ∈ (flatC (Jvm.Cond.and given_1 narrow_1)) := fun k hk => ⟨List.mem_of_getElem? (pm_da0 k hk).1, List.mem_of_getElem? (pm_da0 k hk).2⟩
def pxD : List (List Nat) := [[12, 13, 14, 15, 16, 17, 18, 19, 20, 21, 22, 23, 24, 25, 26, 27, 28, 29, 30, 31, 32, 33, 34, 35, 36, 37, 38, 39, 40, 41, 42, 43, 44, 45, 46, 47, 48, 49, 50, 51, 52, 53, 54, 55, 56, 57, 58, 59, 60, 61, 62, 63, 64, 65, 66, 67, 68, 69, 70, 71, 72, 73, 74, 75, 76, 77, 78, 79, 80, 81, 82, 83, 84, 85, 86, 87, 88, 89, 90, 91, 92, 93, 94, 95, 96, 97, 98, 99, 100, 101, 102, 103, 104, 105, 106, 107, 108, 109, 110, 111], [115, 116, 117, 118, 119, 120, 121, 122, 123, 124, 125, 126, 127, 128, 129, 130, 131, 132, 133, 134, 135, 136, 137, 138, 139, 140, 141, 142, 143, 144, 145, 146, 147, 148, 149, 150, 151, 152, 153, 154, 155, 156, 157, 158, 159, 160, 161, 162, 163, 164, 165, 166, 167, 168, 169, 170, 171, 172, 173, 174, 175, 176, 177, 178, 179, 180, 181, 182, 183, 184, 185, 186, 187, 188, 189, 190, 191, 192, 193, 194, 195, 196, 197, 198, 199, 200, 201, 202, 203, 204, 205, 206, 207, 208, 209, 210, 211, 212, 213, 214]]
theorem pm_de0 : ∀ j, j < 100 → FL[(pxD.getD 0 []).getD j 0]? = some (Cond.eq (.elem (tD 0) (.int (Int32.ofNat j))) (.int ((bL.getD (20 + 0) []).getD j 0))) := by decide +kernel
theorem pm_de1 : ∀ j, j < 100 → FL[(pxD.getD 1 []).getD j 0]? = some (Cond.eq (.elem (tD 1) (.int (Int32.ofNat j))) (.int ((bL.getD (20 + 1) []).getD j 0))) := by decide +kernel
theorem sl_dg : slen.getD 20 0 = 100 ∧ slen.getD 21 0 = 100 := by decide +kernel
theorem pm_de : ∀ k, k < 2 → ∀ j, j < slen.getD (20 + k) 0 → Cond.eq (.elem (tD k) (.int (Int32.ofNat j))) (.int ((bL.getD (20 + k) []).getD j 0)) ∈ (flatC (Jvm.Cond.and given_1 narrow_1)) := fun k hk j hj => by
  have hd : k = 0 ∨ k = 1 := by omega
  rcases hd with z | z
  · subst z
    exact List.mem_of_getElem? (pm_de0 j (by rw [← sl_dg.1]; exact hj))
  · subst z
    exact List.mem_of_getElem? (pm_de1 j (by rw [← sl_dg.2]; exact hj))
/-- the law's row of names -/
def tL : Term := Term.static "SieveHouseLaw" "LAWS" "[Ljava/lang/String;"
def tl2 (j : Nat) : Term := Term.string "SieveHouseLaw" (stT2.getD (8 + j) 0)
theorem pm_la : Cond.arrayOf tL (.object "java/lang/String") ∈ (flatC (Jvm.Cond.and given_1 narrow_1)) ∧ Cond.eq (.length tL) (.int (Int32.ofNat 4)) ∈ (flatC (Jvm.Cond.and given_1 narrow_1)) := ⟨List.mem_of_getElem? (i := 216) (by decide +kernel), List.mem_of_getElem? (i := 217) (by decide +kernel)⟩
theorem pm_l20 : ∀ j, j < 4 → FL[([218, 219, 220, 221] : List Nat).getD j 0]? = some (Cond.eq (.elem tL (.int (Int32.ofNat j))) (tl2 j)) ∧ FL[([623, 655, 686, 718] : List Nat).getD j 0]? = some (Cond.eq (tm (5 + j)) (tl2 j)) := by decide +kernel
theorem pm_l2 : ∀ j, j < 4 → Cond.eq (.elem tL (.int (Int32.ofNat j))) (tl2 j) ∈ (flatC (Jvm.Cond.and given_1 narrow_1)) ∧ Cond.eq (tm (5 + j)) (tl2 j) ∈ (flatC (Jvm.Cond.and given_1 narrow_1)) := fun j hj => ⟨List.mem_of_getElem? (pm_l20 j hj).1, List.mem_of_getElem? (pm_l20 j hj).2⟩
theorem sl_small : ∀ i, i < 22 → slen.getD i 0 ≤ 1000 := by decide +kernel
theorem bL_ne : ∀ i, i < 22 → ∀ j, j < 22 → bL.getD i [] = bL.getD j [] → i = j := by decide +kernel
theorem sl_len : ∀ i, i < 22 → (bL.getD i []).length = slen.getD i 0 := by decide +kernel
theorem li_ext {u v : List Int32} (hl : u.length = v.length) (h : ∀ k, k < u.length → u.getD k 0 = v.getD k 0) : u = v := by
  refine List.ext_getElem hl fun k k1 k2 => ?_
  have := h k k1
  rw [List.getD_eq_getElem?_getD, List.getD_eq_getElem?_getD, List.getElem?_eq_getElem k1, List.getElem?_eq_getElem k2] at this
  exact this
theorem bL_inj {i j : Nat} (hi : i < 22) (hj : j < 22) (hl : slen.getD i 0 = slen.getD j 0) (h : ∀ k, k < slen.getD i 0 → (bL.getD i []).getD k 0 = (bL.getD j []).getD k 0) : i = j :=
  bL_ne i hi j hj (li_ext (by rw [sl_len i hi, sl_len j hj, hl]) fun k k1 => h k (by rw [← sl_len i hi]; exact k1))
