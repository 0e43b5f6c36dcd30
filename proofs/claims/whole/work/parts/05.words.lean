theorem jpl {ws : List Cond} {ps : List Nat} (h : ps.map (fun i => lw_tbl[i]?) = ws.map some) (hg : ws.all goodWord = true) : ∀ w ∈ ws, w ∈ jGW := by
  intro w hw
  obtain ⟨k, hk⟩ := List.getElem?_of_mem hw
  have h1 : (ws.map some)[k]? = some (some w) := by rw [List.getElem?_map, hk]; rfl
  rw [← h, List.getElem?_map] at h1
  cases hp : ps[k]? with
  | none => rw [hp] at h1; cases h1
  | some i =>
    rw [hp] at h1
    exact jGW_of (List.mem_of_getElem? (Option.some.inj h1)) (List.all_eq_true.mp hg w hw)
/-- the layouts of the classes -/
theorem jlay0 : ∀ w ∈ u_ws "TrainingRows$Courses" jT0 10, w ∈ jGW := jpl (ps := [87, 89, 91, 93, 95, 97, 99, 101, 103, 105]) (by decide +kernel) (by decide +kernel)
theorem jlay1 : ∀ w ∈ u_ws "TrainingRows$Records" jT1 9, w ∈ jGW := jpl (ps := [135, 137, 139, 141, 143, 145, 147, 149, 151]) (by decide +kernel) (by decide +kernel)
theorem jlay2 : ∀ w ∈ u_ws "TrainingRows$Seating" jT2 6, w ∈ jGW := jpl (ps := [169, 171, 173, 175, 177, 179]) (by decide +kernel) (by decide +kernel)
theorem jlay3 : ∀ w ∈ u_ws "TrainingRows" jT3 5, w ∈ jGW := jpl (ps := [187, 189, 191, 193, 195]) (by decide +kernel) (by decide +kernel)
theorem jlay4 : ∀ w ∈ u_ws "TrainingRowsModel" jT4 25, w ∈ jGW := jpl (ps := [638, 640, 642, 644, 646, 648, 650, 652, 654, 656, 658, 660, 662, 664, 666, 668, 670, 672, 674, 676, 678, 680, 682, 684, 686]) (by decide +kernel) (by decide +kernel)
theorem jlay : ∀ q ∈ jCl, ∀ w ∈ u_ws q.1 q.2.1 q.2.2, w ∈ jGW := by
  intro q hq
  simp only [jCl, List.mem_cons, List.not_mem_nil, or_false] at hq
  rcases hq with rfl | rfl | rfl | rfl | rfl
  · exact jlay0
  · exact jlay1
  · exact jlay2
  · exact jlay3
  · exact jlay4
def jFw (q : (Nat × Nat) × Nat × Nat) : Cond := match jCl[q.2.1]? with
  | some r => .fieldLink (jcn q.1.1) q.1.2 (r.2.1 q.2.2).1 (r.2.1 q.2.2).2.1 (r.2.1 q.2.2).2.2.1
  | none => .tt
theorem jF_n : ∀ q ∈ jFL, q.2.2 < ((jCl[q.2.1]?).getD ("", jT0, 0)).2.2 := by decide +kernel
theorem jF_all : ∀ w ∈ jFL.map jFw, w ∈ jGW := jpl (ps := [68, 70, 72, 74, 76, 78, 79, 81, 83, 85, 119, 121, 122, 124, 126, 128, 130, 131, 133, 160, 162, 164, 165, 166, 167, 182, 183, 184, 185, 186, 77, 75, 71, 84, 80, 73, 129, 161, 168, 163, 86, 132, 134, 125, 120, 69, 123, 127, 82, 615, 617, 618, 619, 620, 621, 622, 624, 625, 626, 627, 628, 629, 630, 632, 633, 634, 635, 636, 637, 613, 616, 614, 623, 631]) (by decide +kernel) (by decide +kernel)
def jCws (q : (Nat × Nat) × Nat × Nat) : List Cond := match q.2.1 with
  | 0 => [.methodLink (jcn q.1.1) q.1.2 (jn q.2.2), .instanceMethod (jn q.2.2), .selects (jn q.2.2).cls (jn q.2.2) (jn q.2.2), .initialized (jn q.2.2).cls, jcw q.2.2]
  | 2 => [.methodLink (jcn q.1.1) q.1.2 (jn q.2.2), .instanceMethod (jn q.2.2), .initialized (jn q.2.2).cls, jcw q.2.2]
  | 4 => [.static (jn q.2.2), .initialized (jn q.2.2).cls, jcw q.2.2]
  | 5 => [.instanceMethod (jn q.2.2), .initialized (jn q.2.2).cls, jcw q.2.2]
  | _ => [.methodLink (jcn q.1.1) q.1.2 (jn q.2.2), .static (jn q.2.2), .initialized (jn q.2.2).cls, jcw q.2.2]
theorem jC_0 : ∀ w ∈ ((jCL.drop 0).take 30).flatMap jCws, w ∈ jGW := jpl (ps := [337, 40, 338, 379, 117, 43, 118, 116, 117, 43, 118, 541, 117, 43, 118, 550, 552, 13, 44, 553, 567, 569, 17, 44, 570, 337, 40, 338, 571, 573, 18, 44, 574, 575, 577, 19, 44, 578, 563, 565, 16, 44, 566, 554, 556, 14, 44, 557, 559, 561, 15, 44, 562, 65, 41, 66, 112, 113, 42, 114, 157, 44, 158, 207, 208, 40, 209, 279, 280, 281, 41, 282, 299, 300, 301, 41, 302, 312, 314, 1, 40, 315, 332, 333, 334, 41, 335, 355, 337, 40, 338, 357, 358, 359, 41, 360, 375, 376, 377, 41, 378, 394, 396, 2, 40, 397, 399, 401, 3, 40, 402, 423, 425, 8, 40, 426, 435, 437, 10, 40, 438, 444, 446, 11, 40, 447, 407, 409, 5, 40, 410, 415, 416, 40, 417]) (by decide +kernel) (by decide +kernel)
theorem jC_1 : ∀ w ∈ ((jCL.drop 30).take 30).flatMap jCws, w ∈ jGW := jpl (ps := [480, 481, 482, 42, 483, 491, 492, 493, 42, 494, 418, 420, 7, 40, 421, 411, 413, 6, 40, 414, 530, 531, 53, 532, 533, 534, 40, 535, 537, 538, 539, 44, 540, 542, 544, 12, 40, 545, 546, 547, 548, 44, 549, 602, 604, 20, 40, 605, 439, 440, 441, 42, 442, 448, 449, 450, 41, 451, 452, 453, 454, 42, 455, 403, 405, 4, 40, 406, 427, 429, 9, 40, 430, 431, 432, 53, 433, 697, 698, 45, 699, 708, 710, 22, 45, 711, 700, 702, 21, 45, 703, 712, 714, 23, 45, 715, 744, 746, 27, 45, 747, 748, 750, 28, 45, 751, 740, 742, 26, 45, 743, 752, 754, 29, 45, 755, 756, 758, 30, 45, 759, 764, 766, 32, 45, 767, 732, 734, 24, 45, 735, 736, 738, 25, 45, 739, 760, 762, 31, 45, 763, 768, 770, 33, 45, 771]) (by decide +kernel) (by decide +kernel)
theorem jC_2 : ∀ w ∈ ((jCL.drop 60).take 30).flatMap jCws, w ∈ jGW := jpl (ps := [816, 818, 36, 45, 819, 820, 822, 37, 45, 823, 824, 826, 38, 45, 827, 812, 814, 35, 45, 815, 808, 810, 34, 45, 811, 203, 204, 205, 40, 206, 308, 309, 310, 40, 311, 364, 365, 366, 40, 367, 371, 372, 373, 40, 374, 383, 384, 385, 40, 386, 390, 391, 392, 40, 393, 459, 460, 461, 40, 462, 467, 468, 469, 40, 470, 476, 477, 478, 40, 479, 487, 488, 489, 40, 490, 498, 499, 500, 40, 501, 505, 506, 507, 40, 508, 512, 513, 514, 40, 515, 519, 520, 521, 40, 522, 526, 527, 528, 40, 529, 582, 583, 584, 40, 585, 590, 591, 592, 40, 593, 598, 599, 600, 40, 601, 56, 57, 40, 58, 609, 610, 45, 611, 198, 199, 39, 200, 693, 694, 695, 45, 696, 689, 690, 691, 45, 692, 303, 304, 39, 305, 704, 705, 706, 45, 707]) (by decide +kernel) (by decide +kernel)
theorem jC_3 : ∀ w ∈ ((jCL.drop 90).take 30).flatMap jCws, w ∈ jGW := jpl (ps := [361, 362, 39, 363, 716, 717, 718, 45, 719, 368, 369, 39, 370, 720, 721, 722, 45, 723, 380, 381, 39, 382, 724, 725, 726, 45, 727, 387, 388, 39, 389, 728, 729, 730, 45, 731, 456, 457, 39, 458, 772, 773, 774, 45, 775, 464, 465, 39, 466, 776, 777, 778, 45, 779, 473, 474, 39, 475, 780, 781, 782, 45, 783, 484, 485, 39, 486, 784, 785, 786, 45, 787, 495, 496, 39, 497, 788, 789, 790, 45, 791, 502, 503, 39, 504, 792, 793, 794, 45, 795, 509, 510, 39, 511, 796, 797, 798, 45, 799, 516, 517, 39, 518, 800, 801, 802, 45, 803, 523, 524, 39, 525, 804, 805, 806, 45, 807, 579, 580, 39, 581, 828, 829, 830, 45, 831, 587, 588, 39, 589, 832, 833, 834, 45, 835]) (by decide +kernel) (by decide +kernel)
theorem jC_4 : ∀ w ∈ ((jCL.drop 120).take 30).flatMap jCws, w ∈ jGW := jpl (ps := [595, 596, 39, 597, 836, 837, 838, 45, 839]) (by decide +kernel) (by decide +kernel)
theorem jC_all : ∀ q ∈ jCL, ∀ w ∈ jCws q, w ∈ jGW := by
  intro q hq w hw
  have hs : jCL = (jCL.drop 0).take 30 ++ (jCL.drop 30).take 30 ++ (jCL.drop 60).take 30 ++ (jCL.drop 90).take 30 ++ (jCL.drop 120).take 30 := by decide +kernel
  rw [hs] at hq
  rcases List.mem_append.mp hq with hq | hq
  rotate_left
  · exact jC_4 w (List.mem_flatMap.mpr ⟨q, hq, hw⟩)
  rcases List.mem_append.mp hq with hq | hq
  rotate_left
  · exact jC_3 w (List.mem_flatMap.mpr ⟨q, hq, hw⟩)
  rcases List.mem_append.mp hq with hq | hq
  rotate_left
  · exact jC_2 w (List.mem_flatMap.mpr ⟨q, hq, hw⟩)
  rcases List.mem_append.mp hq with hq | hq
  rotate_left
  · exact jC_1 w (List.mem_flatMap.mpr ⟨q, hq, hw⟩)
  exact jC_0 w (List.mem_flatMap.mpr ⟨q, hq, hw⟩)
theorem jC_p : ∀ q ∈ jCL, (parseMethodDescriptor (jn q.2.2).desc).map (fun d => d.parameters.length) = some (jp q.2.2) ∧ (jn q.2.2).cls ≠ "java/lang/invoke/MethodHandle" ∧ (jn q.2.2).cls ≠ "java/lang/invoke/VarHandle" ∧ plainFor (jn q.2.2) = true := by decide +kernel
theorem jC_h : ∀ q ∈ jCL, (q.2.1 = 6 ∧ (jh q.2.2).isEmpty = false) ∨ (q.2.1 < 6 ∧ q.2.1 ≠ 3 ∧ (jh q.2.2).isEmpty = true) := by decide +kernel
theorem jC_i : ∀ q ∈ jCL, (q.2.1 = 2 ∨ q.2.1 = 5) → (jn q.2.2).name = "<init>" ∧ jr q.2.2 = none := by decide +kernel
def jNest : List (String × Nat × MethodName × String) := [("TrainingRows", 11, ⟨"TrainingRows$Courses", "<init>", "()V"⟩, "TrainingRows"), ("TrainingRows", 25, ⟨"TrainingRows$Seating", "<init>", "()V"⟩, "TrainingRows"), ("TrainingRows$Courses", 44, ⟨"TrainingRows", "isIn", "(II)Z"⟩, "TrainingRows"), ("TrainingRows$Seating", 45, ⟨"TrainingRows", "isIn", "(II)Z"⟩, "TrainingRows")]
theorem jC_n : ∀ q ∈ jCL, (q.2.1 = 4 ∨ q.2.1 = 5) → (jcn q.1.1, q.1.2, jn q.2.2, "TrainingRows") ∈ jNest := by decide +kernel
