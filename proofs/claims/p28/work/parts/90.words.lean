/-! the words of the one list, by their places in the tables -/
theorem ps_in {big ws : List Cond} (ps : List Nat) (h : ws = ps.filterMap (fun i => big[i]?)) : ∀ w ∈ ws, w ∈ big := by
  intro w hw
  rw [h] at hw
  obtain ⟨i, -, hi⟩ := List.mem_filterMap.mp hw
  exact List.mem_of_getElem? hi
theorem ps_1 : ∀ w ∈ wsL_law0_r1, w ∈ lw_tbl := ps_in [34, 35, 14, 502, 595, 317, 25, 318, 36, 37, 38, 39, 40, 41, 42, 43, 17, 68, 69, 70, 71, 72, 73, 74] (by decide +kernel)
theorem ps_2_0 : ∀ w ∈ ([Cond.methodLink RX4 9 yJx4a65c_init_da8c8, Cond.instanceMethod yJx4a65c_init_da8c8, Cond.code yJx4a65c_init_da8c8 cJx4a65c_init_da8c8 1 none, Cond.fieldLink RJx4a65c 39 "java/util/ArrayList" "DEFAULTCAPACITY_EMPTY_ELEMENTDATA" "[Ljava/lang/Object;", Cond.fieldLink RJx4a65c 9 "java/util/ArrayList" "elementData" "[Ljava/lang/Object;", Cond.methodLink RJx4a65c 1 yJxc12de_init_da8c8, Cond.instanceMethod yJxc12de_init_da8c8, Cond.initialized RJxc12de, Cond.code yJxc12de_init_da8c8 cJxc12de_init_da8c8 1 none, Cond.fieldLink RJxc12de 7 "java/util/AbstractList" "modCount" "I", Cond.methodLink RJxc12de 1 yJxa1e45_init_da8c8, Cond.instanceMethod yJxa1e45_init_da8c8, Cond.initialized RJxa1e45, Cond.code yJxa1e45_init_da8c8 cJxa1e45_init_da8c8 1 none, Cond.methodLink RJxa1e45 1 objectInit, Cond.methodLink RL 53 yL_build, Cond.static yL_build, Cond.initialized RL] : List Cond), w ∈ lw_tbl := ps_in [44, 45, 46, 54, 56, 47, 48, 16, 49, 58, 50, 51, 15, 52, 53, 454, 455, 13] (by decide +kernel)
set_option maxRecDepth 100000 in
theorem ps_2_1_w : Cond.code yL_build cL_build 11 (some .boolean) ∈ lw_tbl := List.mem_of_getElem? (i := 456) rfl
theorem ps_2_1 : ∀ w ∈ ([Cond.code yL_build cL_build 11 (some .boolean)] : List Cond), w ∈ lw_tbl := fun w h => by rw [List.mem_singleton.mp h]; exact ps_2_1_w
theorem ps_2_2 : ∀ w ∈ ([Cond.methodLink RL 9 yL_cell, Cond.static yL_cell, Cond.code yL_cell cL_cell 2 (some .int), Cond.constant RL 8 (790386105), Cond.methodLink RL 15 yL_below] : List Cond), w ∈ lw_tbl := ps_in [450, 451, 452, 453, 446] (by decide +kernel)
theorem ps_2 : ∀ w ∈ wsL_law0_r2, w ∈ lw_tbl := List.forall_mem_append.mpr ⟨ps_2_0, List.forall_mem_append.mpr ⟨ps_2_1, ps_2_2⟩⟩
theorem ps_3 : ∀ w ∈ wsL_law0_r3, w ∈ lw_tbl := ps_in [447, 448, 449, 457, 458, 459, 460, 189, 21, 207, 22, 467, 468, 23, 461, 462, 463, 186, 187, 188, 98, 99, 100, 101] (by decide +kernel)
theorem ps_4 : ∀ w ∈ wsL_law0_r4, w ∈ lw_tbl := ps_in [57, 469, 470, 471, 472, 481, 483, 473, 474, 475, 477, 479, 480, 268, 269, 270, 271, 59, 60, 272, 274, 2, 275, 276] (by decide +kernel)
theorem ps_5 : ∀ w ∈ wsL_law0_r5, w ∈ lw_tbl := ps_in [278, 3, 279, 280, 282, 4, 283, 322, 288, 289, 323, 284, 285, 24, 286, 287, 290, 291, 292, 293, 294, 295, 26, 296] (by decide +kernel)
theorem ps_6 : ∀ w ∈ wsL_law0_r6, w ∈ lw_tbl := ps_in [297, 609, 298, 309, 310, 311, 312, 313, 315, 316, 319, 321, 320, 27, 503, 504, 505, 506, 482, 484, 507, 509, 12, 510] (by decide +kernel)
theorem ps_7 : ∀ w ∈ wsL_law0_r7, w ∈ lw_tbl := ps_in [102, 28, 467, 170, 171, 172, 173, 174, 175, 29, 176, 177, 178, 30, 179, 180, 181, 182, 183, 512, 513, 514, 337, 339] (by decide +kernel)
theorem ps_8 : ∀ w ∈ wsL_law0_r8, w ∈ lw_tbl := ps_in [7, 340, 341, 184, 223, 239, 342, 343, 344, 31, 345, 537, 538, 539, 540, 346, 347, 348, 32, 349, 569, 571, 572, 350] (by decide +kernel)
theorem ps_9 : ∀ w ∈ wsL_law0_r9, w ∈ lw_tbl := ps_in [351, 352, 33, 353, 240, 243, 245, 247, 354, 356, 8, 357, 233, 568, 242, 237, 566, 244, 476, 478, 248, 246, 570, 541] (by decide +kernel)
theorem ps_10 : ∀ w ∈ wsL_law0_r10, w ∈ lw_tbl := ps_in [358, 359, 360, 361, 362, 363, 364, 365, 241, 366, 230, 367, 369, 9, 370, 235, 371, 372, 373, 374, 234, 375, 376, 377] (by decide +kernel)
theorem ps_11 : ∀ w ∈ wsL_law0_r11, w ∈ lw_tbl := ps_in [378, 379, 380, 381, 573, 382, 383, 384, 385, 386, 387, 388, 389, 390, 517, 518, 519, 520, 526, 341, 530, 521, 522, 523] (by decide +kernel)
theorem ps_12 : ∀ w ∈ wsL_law0_r12, w ∈ lw_tbl := ps_in [524, 531, 532, 533, 534, 535, 536, 555, 556, 557, 558, 184, 560, 427, 429, 11, 430, 561, 562, 563, 564, 565, 567, 587] (by decide +kernel)
theorem ps_13_0 : ∀ w ∈ ([Cond.static yL_call] : List Cond), w ∈ lw_tbl := ps_in [588] (by decide +kernel)
set_option maxRecDepth 100000 in
theorem ps_13_1_w : Cond.code yL_call cL_call 9 (some .int) ∈ lw_tbl := List.mem_of_getElem? (i := 589) rfl
theorem ps_13_1 : ∀ w ∈ ([Cond.code yL_call cL_call 9 (some .int)] : List Cond), w ∈ lw_tbl := fun w h => by rw [List.mem_singleton.mp h]; exact ps_13_1_w
theorem ps_13_2 : ∀ w ∈ ([Cond.constant RL 36 (43200), Cond.methodLink RL 37 yX4_addCall, Cond.instanceMethod yX4_addCall, Cond.selects RX4 yX4_addCall yX4_addCall, Cond.code yX4_addCall cX4_addCall 8 (some .int), Cond.constant RX4 139 (43199), Cond.classLink RX4 148 RX1, Cond.instantiable RX1 9, Cond.methodLink RX4 121 yX4_findLine, Cond.instanceMethod yX4_findLine, Cond.selects RX4 yX4_findLine yX4_findLine, Cond.code yX4_findLine cX4_findLine 2 (some (.object "PhoneRater$Line")), Cond.methodLink RX4 150 yX1_init, Cond.instanceMethod yX1_init, Cond.code yX1_init cX1_init 6 none, Cond.methodLink RX1 3 objectInit, Cond.fieldLink RX1 9 "PhoneRater$Call" "number" "I", Cond.fieldLink RX1 15 "PhoneRater$Call" "line" "LPhoneRater$Line;", Cond.fieldLink RX1 22 "PhoneRater$Call" "seconds" "I", Cond.fieldLink RX1 25 "PhoneRater$Call" "zone" "I", Cond.methodLink RX4 153 yX4_putInOrder, Cond.instanceMethod yX4_putInOrder] : List Cond), w ∈ lw_tbl := ps_in [590, 90, 91, 92, 93, 185, 223, 224, 94, 96, 0, 97, 225, 226, 227, 228, 229, 232, 238, 236, 324, 326] (by decide +kernel)
theorem ps_13 : ∀ w ∈ wsL_law0_r13, w ∈ lw_tbl := List.forall_mem_append.mpr ⟨ps_13_0, List.forall_mem_append.mpr ⟨ps_13_1, ps_13_2⟩⟩
theorem ps_14 : ∀ w ∈ wsL_law0_r14, w ∈ lw_tbl := ps_in [5, 327, 328, 329, 330, 331, 336, 332, 334, 6, 335, 591, 592, 593, 594, 396, 397, 398, 399, 400, 402, 10, 403, 406] (by decide +kernel)
theorem ps_15 : ∀ w ∈ wsL_law0_r15, w ∈ lw_tbl := ps_in [407, 408, 409, 391, 392, 393, 394, 231, 414, 415, 416, 417, 418, 419, 420, 421, 423, 424, 425, 426, 432, 433, 434, 435] (by decide +kernel)
theorem ps_16 : ∀ w ∈ wsL_law0_r16, w ∈ lw_tbl := ps_in [436, 437, 438, 439, 440, 441, 410, 411, 412, 413, 442, 443, 444, 445] (by decide +kernel)
theorem pu_X4 : ∀ w ∈ wsX40, w ∈ lw_tbl := ps_in [75, 77, 79, 81, 83, 85, 87] (by decide +kernel)
theorem pu_Jx4a65c : ∀ w ∈ wsJx4a65c0, w ∈ lw_tbl := ps_in [65, 61, 63] (by decide +kernel)
theorem pu_X3 : ∀ w ∈ wsX30, w ∈ lw_tbl := ps_in [485, 487, 489, 491, 493, 495, 497, 499] (by decide +kernel)
theorem pu_X1 : ∀ w ∈ wsX10, w ∈ lw_tbl := ps_in [249, 251, 253, 255, 257, 259, 261, 263, 265] (by decide +kernel)
theorem pu_X0 : ∀ w ∈ wsX00, w ∈ lw_tbl := ps_in [542, 544, 546, 548, 550, 552] (by decide +kernel)
theorem pu_X2 : ∀ w ∈ wsX20, w ∈ lw_tbl := ps_in [574, 576, 578, 580, 582, 584] (by decide +kernel)
theorem wsL_law_in0 : ∀ w ∈ wsL_law0, w ∈ lw_tbl := by
  unfold wsL_law0
  exact List.forall_mem_append.mpr ⟨List.forall_mem_append.mpr ⟨List.forall_mem_append.mpr ⟨List.forall_mem_append.mpr ⟨List.forall_mem_append.mpr ⟨List.forall_mem_append.mpr ⟨List.forall_mem_append.mpr ⟨List.forall_mem_append.mpr ⟨ps_1, List.forall_mem_append.mpr ⟨ps_2, List.forall_mem_append.mpr ⟨ps_3, List.forall_mem_append.mpr ⟨ps_4, List.forall_mem_append.mpr ⟨ps_5, List.forall_mem_append.mpr ⟨ps_6, List.forall_mem_append.mpr ⟨ps_7, List.forall_mem_append.mpr ⟨ps_8, List.forall_mem_append.mpr ⟨ps_9, List.forall_mem_append.mpr ⟨ps_10, List.forall_mem_append.mpr ⟨ps_11, List.forall_mem_append.mpr ⟨ps_12, List.forall_mem_append.mpr ⟨ps_13, List.forall_mem_append.mpr ⟨ps_14, List.forall_mem_append.mpr ⟨ps_15, ps_16⟩⟩⟩⟩⟩⟩⟩⟩⟩⟩⟩⟩⟩⟩⟩, pu_X4⟩, pu_Jx4a65c⟩, pu_X3⟩, pu_X1⟩, pu_X0⟩, pu_X2⟩, fun _ h => absurd h List.not_mem_nil⟩
theorem wsL_law_x0 : ∀ w ∈ (vx_atS RX4 43 "java/lang/IllegalArgumentException" ["java/lang/RuntimeException", "java/lang/Exception"]).filter goodWord, w ∈ lw_tbl := by decide +kernel
theorem wsL_law_x1 : ∀ w ∈ (vx_atS RX4 60 "java/lang/IllegalStateException" ["java/lang/RuntimeException", "java/lang/Exception"]).filter goodWord, w ∈ lw_tbl := by decide +kernel
theorem wsL_law_x2 : ∀ w ∈ (vx_atS RX4 170 "java/lang/IndexOutOfBoundsException" ["java/lang/RuntimeException", "java/lang/Exception"]).filter goodWord, w ∈ lw_tbl := by decide +kernel
theorem wsL_law_in : ∀ w ∈ wsL_law, w ∈ lw_tbl := fun w h => (List.mem_append.mp h).elim (fun h => (List.mem_append.mp h).elim (fun h => (List.mem_append.mp h).elim (fun h => wsL_law_in0 w h) (fun h => wsL_law_x0 w h)) (fun h => wsL_law_x1 w h)) (fun h => wsL_law_x2 w h)
theorem inX0 : ∀ w ∈ wsX00, w ∈ lw_tbl := fun w h => wsL_law_in w (inlX0 w h)
theorem inX1 : ∀ w ∈ wsX10, w ∈ lw_tbl := fun w h => wsL_law_in w (inlX1 w h)
theorem inX2 : ∀ w ∈ wsX20, w ∈ lw_tbl := fun w h => wsL_law_in w (inlX2 w h)
theorem inX3 : ∀ w ∈ wsX30, w ∈ lw_tbl := fun w h => wsL_law_in w (inlX3 w h)
theorem inX4 : ∀ w ∈ wsX40, w ∈ lw_tbl := fun w h => wsL_law_in w (inlX4 w h)
theorem inJx4a65c : ∀ w ∈ wsJx4a65c0, w ∈ lw_tbl := fun w h => wsL_law_in w (inlJx4a65c w h)
