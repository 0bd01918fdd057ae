/-! the words of the law are in the tables: each by its place -/
theorem in_ix {big ws : List Cond} (ps : List Nat) (h : ws.map some = ps.map (fun i => big[i]?)) : ∀ w ∈ ws, w ∈ big := fun w hw => by
  have h1 : some w ∈ ws.map some := List.mem_map.mpr ⟨w, hw, rfl⟩
  rw [h] at h1
  obtain ⟨i, -, hi⟩ := List.mem_map.mp h1
  exact List.mem_of_getElem? hi
theorem in_law0_r1 : ∀ w ∈ wsL_law0_r1, w ∈ lw_tbl := in_ix [24, 25, 9, 96, 465, 466, 26, 27, 28, 29, 30, 31, 32, 33, 10, 127, 59, 60, 12, 128, 97, 98, 13, 129] (by decide +kernel)
theorem in_law0_r2 : ∀ w ∈ wsL_law0_r2, w ∈ lw_tbl := in_ix [109, 110, 14, 130, 34, 35, 36, 37, 57, 41, 58, 44, 47, 38, 39, 11, 40, 61, 62, 63, 64, 68, 70, 72] (by decide +kernel)
theorem in_law0_r3 : ∀ w ∈ wsL_law0_r3, w ∈ lw_tbl := in_ix [74, 76, 77, 78, 65, 100, 101, 102, 103, 112, 113, 114, 115, 458, 459, 8, 460, 461, 454, 455, 456, 457, 140, 141] (by decide +kernel)
theorem in_law0_r4 : ∀ w ∈ wsL_law0_r4, w ∈ lw_tbl := in_ix [142, 143, 147, 18, 45, 144, 145, 146, 215, 216, 217, 218, 219, 220, 221, 222, 19, 42, 238, 239, 240, 241, 48, 242] (by decide +kernel)
theorem in_law0_r5 : ∀ w ∈ wsL_law0_r5, w ∈ lw_tbl := in_ix [243, 244, 317, 318, 319, 320, 67, 321, 322, 323, 325, 326, 327, 328, 66, 329, 331, 1, 332, 333, 43, 46, 334, 336] (by decide +kernel)
theorem in_law0_r6 : ∀ w ∈ wsL_law0_r6, w ∈ lw_tbl := in_ix [2, 337, 338, 340, 3, 341, 342, 343, 345, 4, 346, 347, 348, 349, 350, 351, 353, 5, 354, 49, 355, 356, 20, 357] (by decide +kernel)
theorem in_law0_r7 : ∀ w ∈ wsL_law0_r7, w ∈ lw_tbl := in_ix [300, 359, 360, 361, 363, 6, 364, 365, 366, 367, 368, 373, 369, 370, 371, 372, 374, 375, 376, 377, 378, 379, 380, 381] (by decide +kernel)
theorem in_law0_r8 : ∀ w ∈ wsL_law0_r8, w ∈ lw_tbl := in_ix [382, 383, 384, 386, 7, 387, 397, 398, 399, 400, 69, 401, 402, 403, 404, 415, 416, 417, 418, 419, 420, 421, 422, 406] (by decide +kernel)
theorem in_law0_r9 : ∀ w ∈ wsL_law0_r9, w ∈ lw_tbl := in_ix [407, 408, 409, 71, 73, 75, 410, 411, 412, 413, 423, 424, 425, 426, 427, 429, 430, 431, 432, 433, 434, 435, 436, 437] (by decide +kernel)
theorem in_law0_r10 : ∀ w ∈ wsL_law0_r10, w ∈ lw_tbl := in_ix [438, 439, 440, 441, 442, 443, 444, 298, 299, 301, 302, 21, 303, 304, 305, 306, 388, 389, 390, 391, 393, 394, 395, 396] (by decide +kernel)
theorem in_law0_r11 : ∀ w ∈ wsL_law0_r11, w ∈ lw_tbl := in_ix [445, 446, 447, 448, 449, 450, 451, 452, 453, 462, 463, 464, 292, 293, 294, 295, 296, 297, 260, 261, 262, 263, 264, 265] (by decide +kernel)
theorem in_law0_r12 : ∀ w ∈ wsL_law0_r12, w ∈ lw_tbl := in_ix [266, 253, 254, 255, 267, 268, 22, 269, 270, 271, 272, 307, 308, 309, 310, 311, 312, 313, 314, 315, 256, 257, 258, 259] (by decide +kernel)
theorem in_law0_r13 : ∀ w ∈ wsL_law0_r13, w ∈ lw_tbl := in_ix [273, 23, 289, 290, 291, 246, 247, 248, 249, 250, 251, 252] (by decide +kernel)
theorem in_nil : ∀ w ∈ ([] : List Cond), w ∈ lw_tbl := fun w h => absurd h List.not_mem_nil
theorem in_wsX10 : ∀ w ∈ wsX10, w ∈ lw_tbl := by decide +kernel
theorem in_wsX20 : ∀ w ∈ wsX20, w ∈ lw_tbl := by decide +kernel
theorem in_wsX30 : ∀ w ∈ wsX30, w ∈ lw_tbl := by decide +kernel
theorem in_wsX40 : ∀ w ∈ wsX40, w ∈ lw_tbl := by decide +kernel
theorem in_wsX50 : ∀ w ∈ wsX50, w ∈ lw_tbl := by decide +kernel
theorem wsL_law_in0 : ∀ w ∈ wsL_law0, w ∈ lw_tbl := fun w h => (List.mem_append.mp h).elim (fun h => (List.mem_append.mp h).elim (fun h => (List.mem_append.mp h).elim (fun h => (List.mem_append.mp h).elim (fun h => (List.mem_append.mp h).elim (fun h => (List.mem_append.mp h).elim (fun h => (List.mem_append.mp h).elim (fun h => in_law0_r1 w h) (fun h => (List.mem_append.mp h).elim (fun h => in_law0_r2 w h) (fun h => (List.mem_append.mp h).elim (fun h => in_law0_r3 w h) (fun h => (List.mem_append.mp h).elim (fun h => in_law0_r4 w h) (fun h => (List.mem_append.mp h).elim (fun h => in_law0_r5 w h) (fun h => (List.mem_append.mp h).elim (fun h => in_law0_r6 w h) (fun h => (List.mem_append.mp h).elim (fun h => in_law0_r7 w h) (fun h => (List.mem_append.mp h).elim (fun h => in_law0_r8 w h) (fun h => (List.mem_append.mp h).elim (fun h => in_law0_r9 w h) (fun h => (List.mem_append.mp h).elim (fun h => in_law0_r10 w h) (fun h => (List.mem_append.mp h).elim (fun h => in_law0_r11 w h) (fun h => (List.mem_append.mp h).elim (fun h => in_law0_r12 w h) (fun h => in_law0_r13 w h))))))))))))) (fun h => in_wsX50 w h)) (fun h => in_wsX30 w h)) (fun h => in_wsX20 w h)) (fun h => in_wsX10 w h)) (fun h => in_wsX40 w h)) (fun h => in_nil w h)
theorem wsL_law_x0 : ∀ w ∈ (vx_atS RX5 45 "java/lang/IndexOutOfBoundsException" ["java/lang/RuntimeException", "java/lang/Exception"]).filter goodWord, w ∈ lw_tbl := by decide +kernel
theorem wsL_law_x1 : ∀ w ∈ (vx_atS RX5 60 "java/lang/IllegalArgumentException" ["java/lang/RuntimeException", "java/lang/Exception"]).filter goodWord, w ∈ lw_tbl := by decide +kernel
theorem wsL_law_x2 : ∀ w ∈ (vx_atS RX5 97 "java/lang/IllegalStateException" ["java/lang/RuntimeException", "java/lang/Exception"]).filter goodWord, w ∈ lw_tbl := by decide +kernel
theorem wsL_law_in : ∀ w ∈ wsL_law, w ∈ lw_tbl := fun w h => (List.mem_append.mp h).elim (fun h => (List.mem_append.mp h).elim (fun h => (List.mem_append.mp h).elim (fun h => wsL_law_in0 w h) (fun h => wsL_law_x0 w h)) (fun h => wsL_law_x1 w h)) (fun h => wsL_law_x2 w h)
