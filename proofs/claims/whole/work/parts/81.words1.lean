/-! The law's words stand in the tables. -/
theorem in_r {big ws : List Cond} (ps : List Nat) (hp : ws = ps.filterMap (fun i => big[i]?)) : ∀ w ∈ ws, w ∈ big := by
  intro w hw
  rw [hp] at hw
  obtain ⟨i, -, hi⟩ := List.mem_filterMap.mp hw
  exact List.mem_of_getElem? hi
theorem in_app {big a b : List Cond} (ha : ∀ w ∈ a, w ∈ big) (hb : ∀ w ∈ b, w ∈ big) : ∀ w ∈ a ++ b, w ∈ big := fun w h => (List.mem_append.mp h).elim (ha w) (hb w)
theorem lw_in1 : ∀ w ∈ wsL_law0_r1, w ∈ lw_tbl := in_r [52, 53, 37, 712, 713, 42, 129, 973, 54, 55, 56, 57, 58, 59, 60, 61, 38, 170, 90, 91, 39, 171, 130, 131] (by decide +kernel)
theorem lw_in2 : ∀ w ∈ wsL_law0_r2, w ∈ lw_tbl := in_r [40, 172, 147, 148, 41, 173, 62, 63, 64, 65, 89, 68, 66, 71, 74, 78, 92, 93, 94, 95, 96, 98, 100, 102] (by decide +kernel)
theorem lw_in3 : ∀ w ∈ wsL_law0_r3, w ∈ lw_tbl := in_r [104, 106, 108, 110, 132, 133, 134, 135, 137, 138, 136, 139, 149, 150, 151, 152, 154, 155, 153, 158, 160, 714, 715, 716] (by decide +kernel)
theorem lw_in4 : ∀ w ∈ wsL_law0_r4, w ∈ lw_tbl := in_r [717, 721, 722, 724, 725, 726, 727, 728, 729, 764, 730, 731, 732, 287, 288, 36, 289, 290, 291, 292, 293, 294, 295, 368] (by decide +kernel)
theorem lw_in5 : ∀ w ∈ wsL_law0_r5, w ∈ lw_tbl := in_r [47, 76, 296, 298, 6, 299, 300, 46, 384, 385, 386, 387, 769, 770, 771, 772, 718, 719, 720, 773, 774, 775, 776, 778] (by decide +kernel)
theorem lw_in6 : ∀ w ∈ wsL_law0_r6, w ∈ lw_tbl := in_r [21, 779, 765, 766, 767, 768, 388, 389, 390, 391, 392, 393, 394, 395, 69, 396, 398, 8, 399, 400, 48, 780, 781, 782] (by decide +kernel)
theorem lw_in7 : ∀ w ∈ wsL_law0_r7, w ∈ lw_tbl := in_r [783, 784, 786, 22, 787, 416, 417, 418, 419, 420, 421, 422, 73, 423, 425, 9, 426, 249, 211, 212, 263, 208, 209, 788] (by decide +kernel)
theorem lw_in8 : ∀ w ∈ wsL_law0_r8, w ∈ lw_tbl := in_r [789, 790, 791, 792, 793, 794, 795, 796, 797, 428, 429, 430, 431, 432, 433, 434, 435, 436, 437, 438, 440, 441, 442, 443] (by decide +kernel)
