theorem lwp (ws : List Cond) (is : List Nat) (h : is.map (fun i => lw_tbl[i]?) = ws.map some) : ∀ w ∈ ws, w ∈ lw_tbl := by
  intro w hw
  have h1 : some w ∈ ws.map some := List.mem_map_of_mem hw
  rw [← h] at h1
  obtain ⟨i, -, hi⟩ := List.mem_map.mp h1
  exact List.mem_of_getElem? hi

theorem lwm_wsL_law0_r1 : ∀ w ∈ wsL_law0_r1, w ∈ lw_tbl := lwp _ [38, 39, 29, 428, 429, 30, 617, 40, 41, 42, 43, 44, 45, 46, 48, 73, 49, 50, 51, 74, 52, 53, 54, 55] (by decide +kernel)
theorem lwm_wsL_law0_r2 : ∀ w ∈ wsL_law0_r2, w ∈ lw_tbl := lwp _ [430, 431, 432, 433, 437, 438, 439, 440, 441, 442, 443, 444, 445, 446, 136, 137, 28, 138, 139, 140, 141, 142, 143, 144] (by decide +kernel)
theorem lwm_wsL_law0_r3 : ∀ w ∈ wsL_law0_r3, w ∈ lw_tbl := lwp _ [244, 36, 145, 146, 147, 148, 149, 150, 151, 152, 153, 154, 34, 221, 222, 223, 224, 226, 6, 227, 228, 35, 245, 246] (by decide +kernel)
theorem lwm_wsL_law0_r4 : ∀ w ∈ wsL_law0_r4, w ∈ lw_tbl := lwp _ [247, 248, 255, 257, 259, 249, 251, 253, 274, 275, 276, 277, 278, 280, 7, 281, 484, 485, 486, 487, 435, 434, 488, 489] (by decide +kernel)
theorem lwm_wsL_law0_r5 : ∀ w ∈ wsL_law0_r5, w ∈ lw_tbl := lwp _ [490, 491, 492, 493, 494, 495, 496, 497, 499, 16, 500, 501, 503, 17, 504, 436, 480, 481, 482, 483, 282, 283, 284, 285] (by decide +kernel)
theorem lwm_wsL_law0_r6 : ∀ w ∈ wsL_law0_r6, w ∈ lw_tbl := lwp _ [286, 287, 288, 289, 290, 291, 505, 506, 507, 508, 509, 510, 511, 292, 293, 294, 295, 296, 297, 298, 260, 299, 301, 8] (by decide +kernel)
theorem lwm_wsL_law0_r7 : ∀ w ∈ wsL_law0_r7, w ∈ lw_tbl := lwp _ [302, 512, 513, 514, 515, 516, 518, 18, 519, 304, 305, 306, 307, 308, 309, 310, 91, 93, 3, 94, 520, 521, 522, 523] (by decide +kernel)
theorem lwm_wsL_law0_r8 : ∀ w ∈ wsL_law0_r8, w ∈ lw_tbl := lwp _ [311, 312, 313, 314, 315, 316, 317, 256, 258, 318, 319, 320, 321, 524, 525, 526, 527, 528, 530, 19, 531, 322, 323, 324] (by decide +kernel)
theorem lwm_wsL_law0_r9 : ∀ w ∈ wsL_law0_r9, w ∈ lw_tbl := lwp _ [325, 326, 327, 328, 329, 331, 9, 332, 532, 533, 534, 535, 333, 334, 335, 336, 337, 338, 339, 87, 89, 2, 90, 250] (by decide +kernel)
theorem lwm_wsL_law0_r10 : ∀ w ∈ wsL_law0_r10, w ∈ lw_tbl := lwp _ [95, 96, 97, 98, 99, 100, 252, 101, 102, 103, 104, 105, 106, 107, 108, 109, 110, 111, 112, 113, 114, 115, 116, 117] (by decide +kernel)
theorem lwm_wsL_law0_r11 : ∀ w ∈ wsL_law0_r11, w ∈ lw_tbl := lwp _ [118, 254, 122, 123, 37, 124, 119, 120, 121, 536, 537, 538, 539, 540, 542, 20, 543, 544, 546, 21, 547, 548, 550, 22] (by decide +kernel)
theorem lwm_wsL_law0_r12 : ∀ w ∈ wsL_law0_r12, w ∈ lw_tbl := lwp _ [551, 552, 554, 23, 555, 556, 558, 24, 559, 447, 448, 560, 561, 562, 563, 565, 25, 566, 567, 568, 569, 340, 341, 342] (by decide +kernel)
theorem lwm_wsL_law0_r13 : ∀ w ∈ wsL_law0_r13, w ∈ lw_tbl := lwp _ [343, 344, 345, 346, 347, 349, 10, 350, 83, 85, 1, 86, 570, 571, 572, 573, 351, 352, 353, 354, 355, 356, 357, 358] (by decide +kernel)
theorem lwm_wsL_law0_r14 : ∀ w ∈ wsL_law0_r14, w ∈ lw_tbl := lwp _ [360, 11, 361, 574, 575, 576, 577, 75, 76, 77, 78, 79, 81, 0, 82, 125, 126, 127, 128, 130, 4, 131, 578, 579] (by decide +kernel)
theorem lwm_wsL_law0_r15 : ∀ w ∈ wsL_law0_r15, w ∈ lw_tbl := lwp _ [580, 581, 582, 584, 26, 585, 362, 363, 364, 365, 366, 367, 368, 586, 587, 588, 589, 369, 370, 371, 372, 373, 374, 375] (by decide +kernel)
theorem lwm_wsL_law0_r16 : ∀ w ∈ wsL_law0_r16, w ∈ lw_tbl := lwp _ [590, 591, 592, 593, 376, 377, 378, 379, 380, 381, 382, 383, 384, 385, 386, 387, 388, 594, 595, 596, 597, 598, 599, 600] (by decide +kernel)
theorem lwm_wsL_law0_r17 : ∀ w ∈ wsL_law0_r17, w ∈ lw_tbl := lwp _ [389, 390, 391, 392, 393, 394, 395, 396, 398, 12, 399, 400, 402, 13, 403, 404, 405, 406, 407, 408, 409, 410, 411, 412] (by decide +kernel)
theorem lwm_wsL_law0_r18 : ∀ w ∈ wsL_law0_r18, w ∈ lw_tbl := lwp _ [413, 415, 14, 416, 417, 419, 15, 420, 601, 602, 603, 604, 605, 607, 27, 608, 421, 422, 423, 424, 425, 426, 427, 609] (by decide +kernel)
theorem lwm_wsL_law0_r19 : ∀ w ∈ wsL_law0_r19, w ∈ lw_tbl := lwp _ [610, 611, 612, 132, 133, 134, 135, 613, 614, 615, 616] (by decide +kernel)
theorem lwm_wsX10 : ∀ w ∈ wsX10, w ∈ lw_tbl := lwp _ [56, 58, 60, 62, 64, 66, 68, 70] (by decide +kernel)
theorem lwm_wsX20 : ∀ w ∈ wsX20, w ∈ lw_tbl := lwp _ [449, 451, 453, 455, 457, 459, 461, 463, 465, 467, 469, 471, 473, 475, 477] (by decide +kernel)
theorem lwm_wsX00 : ∀ w ∈ wsX00, w ∈ lw_tbl := lwp _ [261, 263, 265, 267, 269, 271] (by decide +kernel)
theorem lw_in0 : ∀ w ∈ wsL_law0, w ∈ lw_tbl := by
  unfold wsL_law0
  exact List.forall_mem_append.mpr ⟨List.forall_mem_append.mpr ⟨List.forall_mem_append.mpr ⟨List.forall_mem_append.mpr ⟨List.forall_mem_append.mpr ⟨lwm_wsL_law0_r1, List.forall_mem_append.mpr ⟨lwm_wsL_law0_r2, List.forall_mem_append.mpr ⟨lwm_wsL_law0_r3, List.forall_mem_append.mpr ⟨lwm_wsL_law0_r4, List.forall_mem_append.mpr ⟨lwm_wsL_law0_r5, List.forall_mem_append.mpr ⟨lwm_wsL_law0_r6, List.forall_mem_append.mpr ⟨lwm_wsL_law0_r7, List.forall_mem_append.mpr ⟨lwm_wsL_law0_r8, List.forall_mem_append.mpr ⟨lwm_wsL_law0_r9, List.forall_mem_append.mpr ⟨lwm_wsL_law0_r10, List.forall_mem_append.mpr ⟨lwm_wsL_law0_r11, List.forall_mem_append.mpr ⟨lwm_wsL_law0_r12, List.forall_mem_append.mpr ⟨lwm_wsL_law0_r13, List.forall_mem_append.mpr ⟨lwm_wsL_law0_r14, List.forall_mem_append.mpr ⟨lwm_wsL_law0_r15, List.forall_mem_append.mpr ⟨lwm_wsL_law0_r16, List.forall_mem_append.mpr ⟨lwm_wsL_law0_r17, List.forall_mem_append.mpr ⟨lwm_wsL_law0_r18, lwm_wsL_law0_r19⟩⟩⟩⟩⟩⟩⟩⟩⟩⟩⟩⟩⟩⟩⟩⟩⟩⟩, lwm_wsX10⟩, lwm_wsX20⟩, lwm_wsX00⟩, fun _ h => absurd h List.not_mem_nil⟩
theorem lw_in : ∀ w ∈ wsL_law, w ∈ lw_tbl := by
  unfold wsL_law
  exact List.forall_mem_append.mpr ⟨List.forall_mem_append.mpr ⟨lw_in0, wsL_law_x0⟩, wsL_law_x1⟩
