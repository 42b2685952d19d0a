theorem mem_r {big ws : List Cond} (ps : List Nat) (hp : ws = ps.filterMap (fun i => big[i]?)) : ∀ w ∈ ws, w ∈ big := by
  intro w hw
  rw [hp] at hw
  obtain ⟨i, -, hi⟩ := List.mem_filterMap.mp hw
  exact List.mem_of_getElem? hi
theorem inX0 : ∀ w ∈ wsX00, w ∈ lw_tbl := mem_r [57, 59, 61, 63, 65, 67, 69, 71, 73] (by decide +kernel)
theorem inX1 : ∀ w ∈ wsX10, w ∈ lw_tbl := mem_r [320, 322, 324, 326, 328, 330, 332, 334, 336] (by decide +kernel)
theorem wsL_law_in_1 : ∀ w ∈ wsL_law_r1, w ∈ lw_tbl := mem_r [40, 41, 37, 305, 306, 38, 42, 43, 44, 45, 46, 47, 76, 48, 49, 50, 51, 54, 55, 56, 307, 308, 309, 310] (by decide +kernel)
theorem wsL_law_in_2 : ∀ w ∈ wsL_law_r2, w ∈ lw_tbl := mem_r [311, 313, 315, 316, 317, 318, 319, 77, 78, 79, 80, 81, 82, 83, 339, 340, 341, 342, 343, 344, 345, 346, 347, 84] (by decide +kernel)
theorem wsL_law_in_3 : ∀ w ∈ wsL_law_r3, w ∈ lw_tbl := mem_r [85, 86, 87, 52, 88, 90, 0, 91, 348, 349, 350, 351, 352, 353, 312, 92, 93, 94, 95, 96, 98, 1, 99, 354] (by decide +kernel)
theorem wsL_law_in_4 : ∀ w ∈ wsL_law_r4, w ∈ lw_tbl := mem_r [355, 356, 357, 358, 360, 22, 361, 100, 101, 102, 103, 53, 362, 363, 364, 365, 366, 314, 104, 105, 106, 107, 367, 368] (by decide +kernel)
theorem wsL_law_in_5 : ∀ w ∈ wsL_law_r5, w ∈ lw_tbl := mem_r [369, 370, 371, 373, 23, 374, 108, 109, 110, 111, 112, 113, 114, 115, 117, 2, 118, 119, 120, 121, 375, 376, 377, 378] (by decide +kernel)
theorem wsL_law_in_6 : ∀ w ∈ wsL_law_r6, w ∈ lw_tbl := mem_r [382, 379, 380, 381, 383, 384, 386, 24, 387, 122, 123, 124, 125, 126, 139, 127, 129, 3, 130, 131, 133, 4, 134, 135] (by decide +kernel)
theorem wsL_law_in_7 : ∀ w ∈ wsL_law_r7, w ∈ lw_tbl := mem_r [137, 5, 138, 388, 389, 390, 391, 392, 393, 398, 394, 396, 25, 397, 140, 141, 142, 143, 144, 146, 6, 147, 148, 150] (by decide +kernel)
theorem wsL_law_in_8 : ∀ w ∈ wsL_law_r8, w ∈ lw_tbl := mem_r [7, 151, 152, 153, 39, 154, 155, 157, 8, 158, 159, 161, 9, 162, 163, 165, 10, 166, 167, 169, 11, 170, 171, 173] (by decide +kernel)
theorem wsL_law_in_9 : ∀ w ∈ wsL_law_r9, w ∈ lw_tbl := mem_r [12, 174, 175, 177, 13, 178, 412, 413, 414, 415, 416, 404, 406, 26, 407, 408, 410, 27, 411, 179, 180, 181, 182, 183] (by decide +kernel)
theorem wsL_law_in_10 : ∀ w ∈ wsL_law_r10, w ∈ lw_tbl := mem_r [184, 185, 186, 399, 400, 401, 402, 403, 187, 188, 189, 190, 191, 193, 14, 194, 195, 196, 197, 198, 417, 418, 419, 420] (by decide +kernel)
theorem wsL_law_in_11 : ∀ w ∈ wsL_law_r11, w ∈ lw_tbl := mem_r [421, 422, 423, 424, 426, 28, 427, 199, 200, 201, 202, 203, 204, 206, 15, 207, 208, 209, 210, 211, 212, 213, 214, 215] (by decide +kernel)
theorem wsL_law_in_12 : ∀ w ∈ wsL_law_r12, w ∈ lw_tbl := mem_r [216, 428, 429, 430, 431, 432, 433, 435, 29, 436, 437, 438, 439, 440, 441, 442, 217, 218, 219, 220, 221, 223, 16, 224] (by decide +kernel)
theorem wsL_law_in_13 : ∀ w ∈ wsL_law_r13, w ∈ lw_tbl := mem_r [225, 227, 17, 228, 229, 230, 231, 443, 444, 445, 446, 447, 449, 30, 450, 451, 453, 31, 454, 232, 233, 234, 235, 455] (by decide +kernel)
theorem wsL_law_in_14 : ∀ w ∈ wsL_law_r14, w ∈ lw_tbl := mem_r [456, 457, 458, 236, 237, 238, 239, 459, 460, 461, 462, 463, 464, 465, 240, 241, 242, 243, 244, 245, 246, 247, 248, 250] (by decide +kernel)
theorem wsL_law_in_15 : ∀ w ∈ wsL_law_r15, w ∈ lw_tbl := mem_r [18, 251, 466, 467, 468, 469, 474, 470, 471, 472, 473, 475, 477, 32, 478, 479, 252, 253, 254, 255, 480, 481, 482, 483] (by decide +kernel)
theorem wsL_law_in_16 : ∀ w ∈ wsL_law_r16, w ∈ lw_tbl := mem_r [256, 257, 258, 259, 260, 261, 262, 263, 264, 265, 266, 267, 268, 484, 485, 486, 487, 269, 270, 271, 272, 488, 489, 490] (by decide +kernel)
theorem wsL_law_in_17 : ∀ w ∈ wsL_law_r17, w ∈ lw_tbl := mem_r [491, 492, 493, 273, 274, 275, 276, 277, 278, 279, 280, 282, 19, 283, 284, 286, 20, 287, 288, 290, 21, 291, 494, 495] (by decide +kernel)
theorem wsL_law_in_18 : ∀ w ∈ wsL_law_r18, w ∈ lw_tbl := mem_r [496, 497, 498, 499, 500, 501, 503, 33, 504, 505, 507, 34, 508, 509, 511, 35, 512, 292, 293, 294, 295, 296, 300, 297] (by decide +kernel)
theorem wsL_law_in_19 : ∀ w ∈ wsL_law_r19, w ∈ lw_tbl := mem_r [298, 39, 299, 513, 514, 515, 516, 517, 518, 519, 301, 302, 303, 304, 520, 521, 522, 523] (by decide +kernel)
theorem wsL_law_in : ∀ w ∈ wsL_law, w ∈ lw_tbl := by
  intro w h
  rcases List.mem_append.mp h with h | h
  · rcases List.mem_append.mp h with h | h
    · rcases List.mem_append.mp h with h | h
      · skip
        rcases List.mem_append.mp h with h | h
        · exact wsL_law_in_1 w h
        rcases List.mem_append.mp h with h | h
        · exact wsL_law_in_2 w h
        rcases List.mem_append.mp h with h | h
        · exact wsL_law_in_3 w h
        rcases List.mem_append.mp h with h | h
        · exact wsL_law_in_4 w h
        rcases List.mem_append.mp h with h | h
        · exact wsL_law_in_5 w h
        rcases List.mem_append.mp h with h | h
        · exact wsL_law_in_6 w h
        rcases List.mem_append.mp h with h | h
        · exact wsL_law_in_7 w h
        rcases List.mem_append.mp h with h | h
        · exact wsL_law_in_8 w h
        rcases List.mem_append.mp h with h | h
        · exact wsL_law_in_9 w h
        rcases List.mem_append.mp h with h | h
        · exact wsL_law_in_10 w h
        rcases List.mem_append.mp h with h | h
        · exact wsL_law_in_11 w h
        rcases List.mem_append.mp h with h | h
        · exact wsL_law_in_12 w h
        rcases List.mem_append.mp h with h | h
        · exact wsL_law_in_13 w h
        rcases List.mem_append.mp h with h | h
        · exact wsL_law_in_14 w h
        rcases List.mem_append.mp h with h | h
        · exact wsL_law_in_15 w h
        rcases List.mem_append.mp h with h | h
        · exact wsL_law_in_16 w h
        rcases List.mem_append.mp h with h | h
        · exact wsL_law_in_17 w h
        rcases List.mem_append.mp h with h | h
        · exact wsL_law_in_18 w h
        exact wsL_law_in_19 w h
      · exact inX0 w h
    · exact inX1 w h
  · cases h
