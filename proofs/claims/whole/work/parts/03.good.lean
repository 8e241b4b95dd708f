set_option maxRecDepth 20000 in
theorem wsL_law_q1 : ∀ w ∈ wsL_law0_r1, w ∈ lw_tbl := by decide +kernel
set_option maxRecDepth 20000 in
theorem wsL_law_q2 : ∀ w ∈ wsL_law0_r2, w ∈ lw_tbl := by decide +kernel
set_option maxRecDepth 20000 in
theorem wsL_law_q3 : ∀ w ∈ wsL_law0_r3, w ∈ lw_tbl := by decide +kernel
set_option maxRecDepth 20000 in
theorem wsL_law_q4 : ∀ w ∈ wsL_law0_r4, w ∈ lw_tbl := by decide +kernel
set_option maxRecDepth 20000 in
theorem wsL_law_q5 : ∀ w ∈ wsL_law0_r5, w ∈ lw_tbl := by decide +kernel
set_option maxRecDepth 20000 in
theorem wsL_law_q6 : ∀ w ∈ wsL_law0_r6, w ∈ lw_tbl := by decide +kernel
set_option maxRecDepth 20000 in
theorem wsL_law_q7 : ∀ w ∈ wsL_law0_r7, w ∈ lw_tbl := by decide +kernel
set_option maxRecDepth 20000 in
theorem wsL_law_q8 : ∀ w ∈ wsL_law0_r8, w ∈ lw_tbl := by decide +kernel
set_option maxRecDepth 20000 in
theorem wsL_law_q9 : ∀ w ∈ wsL_law0_r9, w ∈ lw_tbl := by decide +kernel
set_option maxRecDepth 20000 in
theorem wsL_law_q10 : ∀ w ∈ wsL_law0_r10, w ∈ lw_tbl := by decide +kernel
set_option maxRecDepth 20000 in
theorem wsL_law_q11 : ∀ w ∈ wsL_law0_r11, w ∈ lw_tbl := by decide +kernel
set_option maxRecDepth 20000 in
theorem wsL_law_q12 : ∀ w ∈ wsL_law0_r12, w ∈ lw_tbl := by decide +kernel
set_option maxRecDepth 20000 in
theorem wsL_law_q13 : ∀ w ∈ wsL_law0_r13, w ∈ lw_tbl := by decide +kernel
set_option maxRecDepth 20000 in
theorem wsL_law_q14 : ∀ w ∈ wsL_law0_r14, w ∈ lw_tbl := by decide +kernel
set_option maxRecDepth 20000 in
theorem wsL_law_q15 : ∀ w ∈ wsL_law0_r15, w ∈ lw_tbl := by decide +kernel
set_option maxRecDepth 20000 in
theorem wsL_law_q16 : ∀ w ∈ wsL_law0_r16, w ∈ lw_tbl := by decide +kernel
set_option maxRecDepth 20000 in
theorem wsL_law_q17 : ∀ w ∈ wsL_law0_r17, w ∈ lw_tbl := by decide +kernel
set_option maxRecDepth 20000 in
theorem wsL_law_q18 : ∀ w ∈ wsL_law0_r18, w ∈ lw_tbl := by decide +kernel
set_option maxRecDepth 20000 in
theorem wsL_law_q19 : ∀ w ∈ wsL_law0_r19, w ∈ lw_tbl := by decide +kernel
set_option maxRecDepth 20000 in
theorem wsL_law_q20 : ∀ w ∈ wsL_law0_r20, w ∈ lw_tbl := by decide +kernel
set_option maxRecDepth 20000 in
theorem wsL_law_q21 : ∀ w ∈ wsL_law0_r21, w ∈ lw_tbl := by decide +kernel
set_option maxRecDepth 20000 in
theorem wsL_law_q22 : ∀ w ∈ wsL_law0_r22, w ∈ lw_tbl := by decide +kernel
set_option maxRecDepth 20000 in
theorem wsL_law_q23 : ∀ w ∈ wsL_law0_r23, w ∈ lw_tbl := by decide +kernel
set_option maxRecDepth 20000 in
theorem wsL_law_q24 : ∀ w ∈ wsL_law0_r24, w ∈ lw_tbl := by decide +kernel
set_option maxRecDepth 20000 in
theorem wsL_law_q25 : ∀ w ∈ wsL_law0_r25, w ∈ lw_tbl := by decide +kernel
set_option maxRecDepth 20000 in
theorem wsL_law_q26 : ∀ w ∈ wsL_law0_r26, w ∈ lw_tbl := by decide +kernel
set_option maxRecDepth 20000 in
theorem wsL_law_q27 : ∀ w ∈ wsL_law0_r27, w ∈ lw_tbl := by decide +kernel
set_option maxRecDepth 20000 in
theorem wsL_law_q28 : ∀ w ∈ wsL_law0_r28, w ∈ lw_tbl := by decide +kernel
set_option maxRecDepth 20000 in
theorem wsL_law_q29 : ∀ w ∈ wsL_law0_r29, w ∈ lw_tbl := by decide +kernel
set_option maxRecDepth 20000 in
theorem wsL_law_fwsX30 : ∀ w ∈ wsX30, w ∈ lw_tbl := by decide +kernel
set_option maxRecDepth 20000 in
theorem wsL_law_fwsX40 : ∀ w ∈ wsX40, w ∈ lw_tbl := by decide +kernel
set_option maxRecDepth 20000 in
theorem wsL_law_fwsJx4a65c0 : ∀ w ∈ wsJx4a65c0, w ∈ lw_tbl := by decide +kernel
set_option maxRecDepth 20000 in
theorem wsL_law_fwsX10 : ∀ w ∈ wsX10, w ∈ lw_tbl := by decide +kernel
set_option maxRecDepth 20000 in
theorem wsL_law_fwsX00 : ∀ w ∈ wsX00, w ∈ lw_tbl := by decide +kernel
set_option maxRecDepth 20000 in
theorem wsL_law_fwsX20 : ∀ w ∈ wsX20, w ∈ lw_tbl := by decide +kernel
theorem wsL_law_in0 : ∀ w ∈ wsL_law0, w ∈ lw_tbl := by
  unfold wsL_law0
  exact List.forall_mem_append.mpr ⟨List.forall_mem_append.mpr ⟨List.forall_mem_append.mpr ⟨List.forall_mem_append.mpr ⟨List.forall_mem_append.mpr ⟨List.forall_mem_append.mpr ⟨List.forall_mem_append.mpr ⟨(List.forall_mem_append.mpr ⟨wsL_law_q1, List.forall_mem_append.mpr ⟨wsL_law_q2, List.forall_mem_append.mpr ⟨wsL_law_q3, List.forall_mem_append.mpr ⟨wsL_law_q4, List.forall_mem_append.mpr ⟨wsL_law_q5, List.forall_mem_append.mpr ⟨wsL_law_q6, List.forall_mem_append.mpr ⟨wsL_law_q7, List.forall_mem_append.mpr ⟨wsL_law_q8, List.forall_mem_append.mpr ⟨wsL_law_q9, List.forall_mem_append.mpr ⟨wsL_law_q10, List.forall_mem_append.mpr ⟨wsL_law_q11, List.forall_mem_append.mpr ⟨wsL_law_q12, List.forall_mem_append.mpr ⟨wsL_law_q13, List.forall_mem_append.mpr ⟨wsL_law_q14, List.forall_mem_append.mpr ⟨wsL_law_q15, List.forall_mem_append.mpr ⟨wsL_law_q16, List.forall_mem_append.mpr ⟨wsL_law_q17, List.forall_mem_append.mpr ⟨wsL_law_q18, List.forall_mem_append.mpr ⟨wsL_law_q19, List.forall_mem_append.mpr ⟨wsL_law_q20, List.forall_mem_append.mpr ⟨wsL_law_q21, List.forall_mem_append.mpr ⟨wsL_law_q22, List.forall_mem_append.mpr ⟨wsL_law_q23, List.forall_mem_append.mpr ⟨wsL_law_q24, List.forall_mem_append.mpr ⟨wsL_law_q25, List.forall_mem_append.mpr ⟨wsL_law_q26, List.forall_mem_append.mpr ⟨wsL_law_q27, List.forall_mem_append.mpr ⟨wsL_law_q28, wsL_law_q29⟩⟩⟩⟩⟩⟩⟩⟩⟩⟩⟩⟩⟩⟩⟩⟩⟩⟩⟩⟩⟩⟩⟩⟩⟩⟩⟩⟩), wsL_law_fwsX30⟩, wsL_law_fwsX40⟩, wsL_law_fwsJx4a65c0⟩, wsL_law_fwsX10⟩, wsL_law_fwsX00⟩, wsL_law_fwsX20⟩, fun _ h => nomatch h⟩
theorem wsL_law_x0 : ∀ w ∈ (vx_atS RX3 33 "java/lang/IllegalArgumentException" ["java/lang/RuntimeException", "java/lang/Exception"]).filter goodWord, w ∈ lw_tbl := by decide +kernel
theorem wsL_law_x1 : ∀ w ∈ (vx_atS RX3 50 "java/lang/IllegalStateException" ["java/lang/RuntimeException", "java/lang/Exception"]).filter goodWord, w ∈ lw_tbl := by decide +kernel
theorem wsL_law_x2 : ∀ w ∈ (vx_atS RX3 168 "java/lang/IndexOutOfBoundsException" ["java/lang/RuntimeException", "java/lang/Exception"]).filter goodWord, w ∈ lw_tbl := by decide +kernel
theorem wsL_law_in : ∀ w ∈ wsL_law, w ∈ lw_tbl := fun w h => (List.mem_append.mp h).elim (fun h => (List.mem_append.mp h).elim (fun h => (List.mem_append.mp h).elim (fun h => wsL_law_in0 w h) (fun h => wsL_law_x0 w h)) (fun h => wsL_law_x1 w h)) (fun h => wsL_law_x2 w h)
theorem inlX0 : ∀ w ∈ wsX00, w ∈ wsL_law := fun _ h => List.mem_append_left _ (List.mem_append_left _ (List.mem_append_left _ (List.mem_append_left _ (List.mem_append_left _ (List.mem_append_right _ h)))))
theorem inX0 : ∀ w ∈ wsX00, w ∈ lw_tbl := fun w h => wsL_law_in w (inlX0 w h)
theorem inlX1 : ∀ w ∈ wsX10, w ∈ wsL_law := fun _ h => List.mem_append_left _ (List.mem_append_left _ (List.mem_append_left _ (List.mem_append_left _ (List.mem_append_left _ (List.mem_append_left _ (List.mem_append_right _ h))))))
theorem inX1 : ∀ w ∈ wsX10, w ∈ lw_tbl := fun w h => wsL_law_in w (inlX1 w h)
theorem inlX2 : ∀ w ∈ wsX20, w ∈ wsL_law := fun _ h => List.mem_append_left _ (List.mem_append_left _ (List.mem_append_left _ (List.mem_append_left _ (List.mem_append_right _ h))))
theorem inX2 : ∀ w ∈ wsX20, w ∈ lw_tbl := fun w h => wsL_law_in w (inlX2 w h)
theorem inlX3 : ∀ w ∈ wsX30, w ∈ wsL_law := fun _ h => List.mem_append_left _ (List.mem_append_left _ (List.mem_append_left _ (List.mem_append_left _ (List.mem_append_left _ (List.mem_append_left _ (List.mem_append_left _ (List.mem_append_left _ (List.mem_append_left _ (List.mem_append_right _ h)))))))))
theorem inX3 : ∀ w ∈ wsX30, w ∈ lw_tbl := fun w h => wsL_law_in w (inlX3 w h)
theorem inlX4 : ∀ w ∈ wsX40, w ∈ wsL_law := fun _ h => List.mem_append_left _ (List.mem_append_left _ (List.mem_append_left _ (List.mem_append_left _ (List.mem_append_left _ (List.mem_append_left _ (List.mem_append_left _ (List.mem_append_left _ (List.mem_append_right _ h))))))))
theorem inX4 : ∀ w ∈ wsX40, w ∈ lw_tbl := fun w h => wsL_law_in w (inlX4 w h)
theorem inJx145de : ∀ w ∈ wsJx145de0, w ∈ lw_tbl := by decide +kernel
theorem inJ5 : ∀ w ∈ wsJ50, w ∈ lw_tbl := by decide +kernel
theorem inJx2cfe8 : ∀ w ∈ wsJx2cfe80, w ∈ lw_tbl := by decide +kernel
theorem inJx9f9b0 : ∀ w ∈ wsJx9f9b00, w ∈ lw_tbl := by decide +kernel
theorem inJx8e188 : ∀ w ∈ wsJx8e1880, w ∈ lw_tbl := by decide +kernel
theorem inJxb160c : ∀ w ∈ wsJxb160c0, w ∈ lw_tbl := by decide +kernel
theorem inJ6 : ∀ w ∈ wsJ60, w ∈ lw_tbl := by decide +kernel
theorem inJxab1ab : ∀ w ∈ wsJxab1ab0, w ∈ lw_tbl := by decide +kernel
theorem inJ9 : ∀ w ∈ wsJ90, w ∈ lw_tbl := by decide +kernel
theorem inJxd2413 : ∀ w ∈ wsJxd24130, w ∈ lw_tbl := by decide +kernel
theorem inJ0 : ∀ w ∈ wsJ00, w ∈ lw_tbl := by decide +kernel
theorem inJ4 : ∀ w ∈ wsJ40, w ∈ lw_tbl := by decide +kernel
theorem inJ1 : ∀ w ∈ wsJ10, w ∈ lw_tbl := by decide +kernel
theorem inJ2 : ∀ w ∈ wsJ20, w ∈ lw_tbl := by decide +kernel
theorem inJ10 : ∀ w ∈ wsJ100, w ∈ lw_tbl := by decide +kernel
theorem inJxfd54e : ∀ w ∈ wsJxfd54e0, w ∈ lw_tbl := by decide +kernel
theorem inJx3cf43 : ∀ w ∈ wsJx3cf430, w ∈ lw_tbl := by decide +kernel
theorem inJxa1e45 : ∀ w ∈ wsJxa1e450, w ∈ lw_tbl := by decide +kernel
theorem inJxc12de : ∀ w ∈ wsJxc12de0, w ∈ lw_tbl := by decide +kernel
theorem inlJx4a65c : ∀ w ∈ wsJx4a65c0, w ∈ wsL_law := fun _ h => List.mem_append_left _ (List.mem_append_left _ (List.mem_append_left _ (List.mem_append_left _ (List.mem_append_left _ (List.mem_append_left _ (List.mem_append_left _ (List.mem_append_right _ h)))))))
theorem inJx4a65c : ∀ w ∈ wsJx4a65c0, w ∈ lw_tbl := fun w h => wsL_law_in w (inlJx4a65c w h)
theorem inJ7 : ∀ w ∈ wsJ70, w ∈ lw_tbl := by decide +kernel
theorem inJx5ef63 : ∀ w ∈ wsJx5ef630, w ∈ lw_tbl := by decide +kernel
theorem inJxbd725 : ∀ w ∈ wsJxbd7250, w ∈ lw_tbl := by decide +kernel
theorem inJ15 : ∀ w ∈ wsJ150, w ∈ lw_tbl := by decide +kernel
theorem inJxf0a74 : ∀ w ∈ wsJxf0a740, w ∈ lw_tbl := by decide +kernel
theorem inJxa66e6 : ∀ w ∈ wsJxa66e60, w ∈ lw_tbl := by decide +kernel
theorem inJ8 : ∀ w ∈ wsJ80, w ∈ lw_tbl := by decide +kernel
theorem inJ3 : ∀ w ∈ wsJ30, w ∈ lw_tbl := by decide +kernel
set_option maxRecDepth 20000 in
theorem ggX1_init_X3_countLetters : GoodIn wsX1_init wsX3_countLetters := goodIn_r _ [15] (by decide +kernel) (by decide +kernel)
set_option maxRecDepth 20000 in
theorem gX1_init_X3_countLetters_n20 : GoodIn wsX1_init (wsX3_countLetters) := ggX1_init_X3_countLetters
set_option maxRecDepth 20000 in
theorem ggX1_init_X3_hashOf : GoodIn wsX1_init wsX3_hashOf := goodIn_r _ [17, 18, 13, 14, 15, 19, 20, 21] (by decide +kernel) (by decide +kernel)
set_option maxRecDepth 20000 in
theorem gX1_init_X3_hashOf_n29 : GoodIn wsX1_init (wsX3_hashOf) := ggX1_init_X3_hashOf
set_option maxRecDepth 20000 in
theorem ggX1_letter_X3_letterAt : GoodIn wsX1_letter wsX3_letterAt := goodIn_r _ [5] (by decide +kernel) (by decide +kernel)
set_option maxRecDepth 20000 in
theorem gX1_letter_X3_letterAt_n49 : GoodIn wsX1_letter (wsX3_letterAt) := ggX1_letter_X3_letterAt
set_option maxRecDepth 20000 in
theorem ggX1_isReadable_X1_isReadableFromPack : GoodIn wsX1_isReadable wsX1_isReadableFromPack := goodIn_r _ [7, 8, 9, 10, 11, 12, 6, 13, 14, 15, 16, 17, 18, 19, 20, 21, 22, 23, 24, 25, 26, 27, 28] (by decide +kernel) (by decide +kernel)
set_option maxRecDepth 20000 in
theorem gX1_isReadable_X1_isReadableFromPack : GoodIn wsX1_isReadable (wsV RX1 53 RX1 yX1_isReadableFromPack wsX1_isReadableFromPack) := goodIn_app (goodIn_of _ (by decide +kernel)) ggX1_isReadable_X1_isReadableFromPack
set_option maxRecDepth 20000 in
theorem ggX1_isReadableFromPack_X1_baseItem : GoodIn wsX1_isReadableFromPack wsX1_baseItem := goodIn_r _ [7, 1, 8, 9, 10, 11, 12, 13, 14, 15, 16, 17, 18, 19, 20, 21, 22] (by decide +kernel) (by decide +kernel)
set_option maxRecDepth 20000 in
theorem gX1_isReadableFromPack_X1_baseItem : GoodIn wsX1_isReadableFromPack (wsV RX1 62 RX1 yX1_baseItem wsX1_baseItem) := goodIn_app (goodIn_of _ (by decide +kernel)) ggX1_isReadableFromPack_X1_baseItem
set_option maxRecDepth 20000 in
theorem ggX1_dependsOn_X1_baseItem : GoodIn wsX1_dependsOn wsX1_baseItem := goodIn_r _ [5, 6, 7, 8, 9, 10, 11, 12, 13, 14, 15, 16, 17, 18, 19, 20, 21] (by decide +kernel) (by decide +kernel)
set_option maxRecDepth 20000 in
theorem gX1_dependsOn_X1_baseItem : GoodIn wsX1_dependsOn (wsV RX1 62 RX1 yX1_baseItem wsX1_baseItem) := goodIn_app (goodIn_of _ (by decide +kernel)) ggX1_dependsOn_X1_baseItem
set_option maxRecDepth 20000 in
theorem ggX3_init_Jx4a65c_init_da8c8 : GoodIn wsX3_init wsJx4a65c_init_da8c8 := goodIn_r _ [14, 15, 16, 17, 18, 19, 20, 21, 22, 23, 24, 25, 26, 2, 3, 27, 28, 29] (by decide +kernel) (by decide +kernel)
set_option maxRecDepth 20000 in
theorem gX3_init_Jx4a65c_init_da8c8 : GoodIn wsX3_init (wsJx4a65c_init_da8c8) := ggX3_init_Jx4a65c_init_da8c8
set_option maxRecDepth 20000 in
theorem ggX3_store_X3_isContent : GoodIn wsX3_store wsX3_isContent := goodIn_r _ [12, 13, 14] (by decide +kernel) (by decide +kernel)
set_option maxRecDepth 20000 in
theorem gX3_store_X3_isContent : GoodIn wsX3_store (va_wsS RX3 36 yX3_isContent wsX3_isContent) := goodIn_app (goodIn_of _ (by decide +kernel)) ggX3_store_X3_isContent
set_option maxRecDepth 20000 in
theorem ggX3_store_Jx4a65c_size_8abf5 : GoodIn wsX3_store wsJx4a65c_size_8abf5 := goodIn_r _ [19, 20, 112, 113, 114] (by decide +kernel) (by decide +kernel)
set_option maxRecDepth 20000 in
theorem gX3_store_Jx4a65c_size_8abf5 : GoodIn wsX3_store (wsV RX3 42 RJx4a65c yJx4a65c_size_8abf5 wsJx4a65c_size_8abf5) := goodIn_app (goodIn_of _ (by decide +kernel)) ggX3_store_Jx4a65c_size_8abf5
set_option maxRecDepth 20000 in
theorem ggX3_store_X1_init : GoodIn wsX3_store wsX1_init := goodIn_r _ [23, 24, 25, 26, 27, 28, 29, 30, 31, 32, 33, 34, 35, 36, 11, 37, 38, 39, 40, 41, 42, 43, 103, 104, 105, 106, 107, 108, 109, 110, 111] (by decide +kernel) (by decide +kernel)
set_option maxRecDepth 20000 in
theorem gX3_store_X1_init : GoodIn wsX3_store (wsX1_init) := ggX3_store_X1_init
set_option maxRecDepth 20000 in
theorem ggX3_store_Jx4a65c_add_9ea2d : GoodIn wsX3_store wsJx4a65c_add_9ea2d := goodIn_r _ [47, 48, 49, 50, 20, 51, 52, 53, 18, 54, 55, 56, 57, 58, 59, 60, 61, 62, 63, 64, 65, 66, 67, 68, 69, 70, 71, 72, 73, 74, 75, 76, 77, 78, 79, 80, 81, 82, 83, 84, 85, 86, 87, 88, 89, 90, 91, 92, 93, 94, 95, 96, 97, 112, 113, 114] (by decide +kernel) (by decide +kernel)
set_option maxRecDepth 20000 in
theorem gX3_store_Jx4a65c_add_9ea2d : GoodIn wsX3_store (wsV RX3 56 RJx4a65c yJx4a65c_add_9ea2d wsJx4a65c_add_9ea2d) := goodIn_app (goodIn_of _ (by decide +kernel)) ggX3_store_Jx4a65c_add_9ea2d
set_option maxRecDepth 20000 in
theorem ggX3_delete_X3_itemOf : GoodIn wsX3_delete wsX3_itemOf := goodIn_ca (goodIn_r _ [9, 10, 11, 12, 13, 14, 15, 16, 17, 18, 19, 20, 21, 22, 23, 24, 25, 26, 27, 28, 29, 30, 31, 32, 33, 34, 35, 36, 50, 51, 52, 53, 54, 55, 56, 57] (by decide +kernel) (by decide +kernel)) (goodIn_sub (fun _ h => List.mem_cons_of_mem _ (List.mem_append_right _ h)) (by decide +kernel))
set_option maxRecDepth 20000 in
theorem gX3_delete_X3_itemOf : GoodIn wsX3_delete (wsV RX3 60 RX3 yX3_itemOf wsX3_itemOf) := goodIn_app (goodIn_of _ (by decide +kernel)) ggX3_delete_X3_itemOf
set_option maxRecDepth 20000 in
theorem ggX3_delete_X3_countLive : GoodIn wsX3_delete wsX3_countLive := goodIn_r _ [40, 12, 13, 3, 14, 15, 16, 17, 18, 19, 20, 21, 22, 23, 24, 25, 26, 27, 28, 29, 30, 31, 32, 33, 34, 35, 36, 50, 51, 52, 53, 54, 41, 42, 43, 44, 45, 46, 47, 48, 49, 55, 56, 57] (by decide +kernel) (by decide +kernel)
set_option maxRecDepth 20000 in
theorem gX3_delete_X3_countLive : GoodIn wsX3_delete (wsV RX3 73 RX3 yX3_countLive wsX3_countLive) := goodIn_app (goodIn_of _ (by decide +kernel)) ggX3_delete_X3_countLive
set_option maxRecDepth 20000 in
theorem ggX3_objects_Jx4a65c_size_8abf5 : GoodIn wsX3_objects wsJx4a65c_size_8abf5 := goodIn_r _ [6, 7, 13, 14, 15] (by decide +kernel) (by decide +kernel)
set_option maxRecDepth 20000 in
theorem gX3_objects_Jx4a65c_size_8abf5 : GoodIn wsX3_objects (wsV RX3 42 RJx4a65c yJx4a65c_size_8abf5 wsJx4a65c_size_8abf5) := goodIn_app (goodIn_of _ (by decide +kernel)) ggX3_objects_Jx4a65c_size_8abf5
set_option maxRecDepth 20000 in
theorem ggX3_isLive_X3_itemOf : GoodIn wsX3_isLive wsX3_itemOf := goodIn_ca (goodIn_r _ [6, 7, 8, 9, 10, 11, 12, 13, 14, 15, 16, 17, 18, 19, 20, 21, 22, 23, 24, 25, 26, 27, 28, 29, 30, 31, 32, 33, 43, 44, 45, 46, 47, 48, 49, 50] (by decide +kernel) (by decide +kernel)) (goodIn_sub (fun _ h => List.mem_cons_of_mem _ (List.mem_append_right _ h)) (by decide +kernel))
set_option maxRecDepth 20000 in
theorem gX3_isLive_X3_itemOf : GoodIn wsX3_isLive (wsV RX3 60 RX3 yX3_itemOf wsX3_itemOf) := goodIn_app (goodIn_of _ (by decide +kernel)) ggX3_isLive_X3_itemOf
set_option maxRecDepth 20000 in
theorem ggX3_isLoose_X3_itemOf : GoodIn wsX3_isLoose wsX3_itemOf := goodIn_ca (goodIn_r _ [6, 7, 8, 9, 10, 11, 12, 13, 14, 15, 16, 17, 18, 19, 20, 21, 22, 23, 24, 25, 26, 27, 28, 29, 30, 31, 32, 33, 43, 44, 45, 46, 47, 48, 49, 50] (by decide +kernel) (by decide +kernel)) (goodIn_sub (fun _ h => List.mem_cons_of_mem _ (List.mem_append_right _ h)) (by decide +kernel))
set_option maxRecDepth 20000 in
theorem gX3_isLoose_X3_itemOf : GoodIn wsX3_isLoose (wsV RX3 60 RX3 yX3_itemOf wsX3_itemOf) := goodIn_app (goodIn_of _ (by decide +kernel)) ggX3_isLoose_X3_itemOf
set_option maxRecDepth 20000 in
theorem ggX3_canRead_X3_itemOf : GoodIn wsX3_canRead wsX3_itemOf := goodIn_ca (goodIn_r _ [5, 6, 7, 8, 9, 10, 11, 12, 13, 14, 15, 16, 17, 18, 19, 20, 21, 22, 23, 24, 25, 26, 27, 28, 29, 30, 31, 32, 51, 52, 53, 54, 55, 56, 57, 58] (by decide +kernel) (by decide +kernel)) (goodIn_sub (fun _ h => List.mem_cons_of_mem _ (List.mem_append_right _ h)) (by decide +kernel))
set_option maxRecDepth 20000 in
theorem gX3_canRead_X3_itemOf : GoodIn wsX3_canRead (wsV RX3 60 RX3 yX3_itemOf wsX3_itemOf) := goodIn_app (goodIn_of _ (by decide +kernel)) ggX3_canRead_X3_itemOf
set_option maxRecDepth 20000 in
theorem ggX3_canRead_X1_isReadable : GoodIn wsX3_canRead wsX1_isReadable := goodIn_r _ [37, 38, 39, 40, 41, 42, 36, 43, 44, 45, 46, 47, 48, 49, 50, 59, 60, 61, 62, 63, 64, 65, 66, 67, 68, 69, 70, 71, 72] (by decide +kernel) (by decide +kernel)
set_option maxRecDepth 20000 in
theorem gX3_canRead_X1_isReadable : GoodIn wsX3_canRead (wsV RX3 76 RX1 yX1_isReadable wsX1_isReadable) := goodIn_app (goodIn_of _ (by decide +kernel)) ggX3_canRead_X1_isReadable
set_option maxRecDepth 20000 in
theorem ggX3_read_X3_itemOf : GoodIn wsX3_read wsX3_itemOf := goodIn_ca (goodIn_r _ [8, 9, 10, 11, 12, 13, 14, 15, 16, 17, 18, 19, 20, 21, 22, 23, 24, 25, 26, 27, 28, 29, 30, 31, 32, 33, 34, 35, 63, 64, 65, 66, 67, 68, 69, 70] (by decide +kernel) (by decide +kernel)) (goodIn_sub (fun _ h => List.mem_cons_of_mem _ (List.mem_append_right _ h)) (by decide +kernel))
set_option maxRecDepth 20000 in
theorem gX3_read_X3_itemOf : GoodIn wsX3_read (wsV RX3 60 RX3 yX3_itemOf wsX3_itemOf) := goodIn_app (goodIn_of _ (by decide +kernel)) ggX3_read_X3_itemOf
set_option maxRecDepth 20000 in
theorem ggX3_read_X1_isReadable : GoodIn wsX3_read wsX1_isReadable := goodIn_r _ [40, 41, 42, 43, 44, 45, 39, 46, 47, 48, 49, 50, 51, 52, 53, 54, 55, 56, 57, 58, 59, 60, 61, 62, 71, 72, 73, 74, 75] (by decide +kernel) (by decide +kernel)
set_option maxRecDepth 20000 in
theorem gX3_read_X1_isReadable : GoodIn wsX3_read (wsV RX3 76 RX1 yX1_isReadable wsX1_isReadable) := goodIn_app (goodIn_of _ (by decide +kernel)) ggX3_read_X1_isReadable
set_option maxRecDepth 20000 in
theorem ggX3_pack_X3_fillOrder : GoodIn wsX3_pack wsX3_fillOrder := goodIn_r _ [12, 5, 13, 6, 14, 15, 16, 17, 18, 19, 20, 21, 22, 23, 24, 25, 26, 27, 28, 29, 30, 31, 32, 33, 34, 35, 36, 37, 38, 39, 40, 41, 42, 43, 44, 45, 46, 47, 48, 49, 50, 51, 52, 53, 54, 55, 56, 57, 58, 59, 60, 61, 62, 63, 11, 64, 65, 66, 67, 68, 69, 70, 71, 72, 73, 74, 75, 76, 77, 78, 79, 80, 81, 82, 83, 84, 85, 86, 87, 88, 89, 90, 91, 92, 93, 94, 95, 96, 97, 98, 99, 100, 101, 102, 103, 104, 105, 106, 107, 108, 109, 110, 111, 112, 113, 114, 115, 116, 117, 118, 119, 120, 121, 122, 194, 195, 196, 197, 198, 208, 209, 210, 199, 200, 201, 202, 203, 204, 205, 206, 207, 211, 212, 213, 214, 215] (by decide +kernel) (by decide +kernel)
set_option maxRecDepth 20000 in
theorem gX3_pack_X3_fillOrder : GoodIn wsX3_pack (wsV RX3 90 RX3 yX3_fillOrder wsX3_fillOrder) := goodIn_app (goodIn_of _ (by decide +kernel)) ggX3_pack_X3_fillOrder
set_option maxRecDepth 20000 in
theorem ggX3_pack_X3_putFormsAside : GoodIn wsX3_pack wsX3_putFormsAside := goodIn_r _ [126, 13, 6, 7, 127, 23, 24, 25, 17, 26, 22, 27, 28, 29, 30, 31, 32, 33, 34, 35, 36, 37, 38, 39, 40, 41, 42, 21, 194, 195, 196, 197, 198, 199, 200, 201, 202, 203, 204, 205, 206, 207, 208, 209, 210] (by decide +kernel) (by decide +kernel)
set_option maxRecDepth 20000 in
theorem gX3_pack_X3_putFormsAside : GoodIn wsX3_pack (wsV RX3 93 RX3 yX3_putFormsAside wsX3_putFormsAside) := goodIn_app (goodIn_of _ (by decide +kernel)) ggX3_pack_X3_putFormsAside
set_option maxRecDepth 20000 in
theorem ggX3_pack_Jx4a65c_size_8abf5 : GoodIn wsX3_pack wsJx4a65c_size_8abf5 := goodIn_r _ [26, 22, 208, 209, 210] (by decide +kernel) (by decide +kernel)
set_option maxRecDepth 20000 in
theorem gX3_pack_Jx4a65c_size_8abf5 : GoodIn wsX3_pack (wsV RX3 42 RJx4a65c yJx4a65c_size_8abf5 wsJx4a65c_size_8abf5) := goodIn_app (goodIn_of _ (by decide +kernel)) ggX3_pack_Jx4a65c_size_8abf5
set_option maxRecDepth 20000 in
theorem ggX3_pack_Jx4a65c_get_915e3 : GoodIn wsX3_pack wsJx4a65c_get_915e3 := goodIn_r _ [30, 22, 31, 32, 33, 34, 35, 36, 37, 38, 39, 40, 41, 17, 42, 21, 208, 209, 210] (by decide +kernel) (by decide +kernel)
set_option maxRecDepth 20000 in
theorem gX3_pack_Jx4a65c_get_915e3 : GoodIn wsX3_pack (wsV RX3 96 RJx4a65c yJx4a65c_get_915e3 wsJx4a65c_get_915e3) := goodIn_app (goodIn_of _ (by decide +kernel)) ggX3_pack_Jx4a65c_get_915e3
set_option maxRecDepth 20000 in
theorem ggX3_pack_X3_reuseForm : GoodIn wsX3_pack wsX3_reuseForm := goodIn_r _ [131, 127, 132, 133, 7, 134, 4, 135, 136, 137, 138, 139, 140, 141, 142, 143, 144, 145, 146, 147, 148, 149, 150, 199, 200, 201, 202, 203, 204, 205, 206, 207, 211, 212, 213, 214, 215, 194, 195, 196, 197, 198] (by decide +kernel) (by decide +kernel)
set_option maxRecDepth 20000 in
theorem gX3_pack_X3_reuseForm : GoodIn wsX3_pack (wsV RX3 100 RX3 yX3_reuseForm wsX3_reuseForm) := goodIn_app (goodIn_of _ (by decide +kernel)) ggX3_pack_X3_reuseForm
set_option maxRecDepth 20000 in
theorem ggX3_pack_X3_findForm : GoodIn wsX3_pack wsX3_findForm := goodIn_r _ [154, 69, 5, 155, 120, 94, 121, 6, 7, 134, 3, 135, 136, 137, 23, 24, 25, 17, 26, 22, 27, 28, 29, 30, 31, 32, 33, 34, 35, 36, 37, 38, 39, 40, 41, 42, 21, 156, 157, 11, 158, 159, 160, 161, 162, 163, 164, 165, 93, 95, 166, 167, 168, 169, 170, 171, 46, 172, 173, 174, 175, 176, 140, 141, 142, 143, 144, 145, 146, 147, 148, 149, 150, 199, 200, 201, 202, 203, 204, 205, 206, 207, 194, 195, 196, 197, 198, 211, 212, 213, 214, 215, 208, 209, 210] (by decide +kernel) (by decide +kernel)
set_option maxRecDepth 20000 in
theorem gX3_pack_X3_findForm : GoodIn wsX3_pack (wsV RX3 104 RX3 yX3_findForm wsX3_findForm) := goodIn_app (goodIn_of _ (by decide +kernel)) ggX3_pack_X3_findForm
set_option maxRecDepth 20000 in
theorem ggX3_pack_X3_fillIndex : GoodIn wsX3_pack wsX3_fillIndex := goodIn_r _ [180, 181, 5, 6, 14, 15, 16, 17, 18, 19, 20, 21, 22, 23, 24, 25, 26, 27, 28, 29, 30, 31, 32, 33, 34, 35, 36, 37, 38, 39, 40, 41, 42, 182, 183, 184, 11, 185, 186, 187, 188, 189, 70, 71, 72, 73, 74, 75, 76, 77, 78, 79, 80, 81, 82, 83, 84, 85, 86, 87, 88, 89, 90, 91, 92, 93, 94, 95, 96, 97, 98, 99, 100, 101, 102, 103, 104, 105, 106, 107, 108, 109, 110, 111, 112, 113, 114, 115, 116, 117, 118, 119, 120, 121, 122, 194, 195, 196, 197, 198, 208, 209, 210, 199, 200, 201, 202, 203, 204, 205, 206, 207] (by decide +kernel) (by decide +kernel)
set_option maxRecDepth 20000 in
theorem gX3_pack_X3_fillIndex : GoodIn wsX3_pack (wsV RX3 112 RX3 yX3_fillIndex wsX3_fillIndex) := goodIn_app (goodIn_of _ (by decide +kernel)) ggX3_pack_X3_fillIndex
set_option maxRecDepth 20000 in
theorem ggX3_pack_X3_cost : GoodIn wsX3_pack wsX3_cost := goodIn_r _ [193, 5, 6, 7, 139, 23, 24, 25, 17, 26, 22, 27, 28, 29, 30, 31, 32, 33, 34, 35, 36, 37, 38, 39, 40, 41, 42, 21, 194, 195, 196, 197, 198, 199, 200, 201, 202, 203, 204, 205, 206, 207, 211, 212, 213, 214, 215, 208, 209, 210] (by decide +kernel) (by decide +kernel)
set_option maxRecDepth 20000 in
theorem gX3_pack_X3_cost : GoodIn wsX3_pack (wsV RX3 115 RX3 yX3_cost wsX3_cost) := goodIn_app (goodIn_of _ (by decide +kernel)) ggX3_pack_X3_cost
set_option maxRecDepth 20000 in
theorem ggX3_prune_Jx4a65c_size_8abf5 : GoodIn wsX3_prune wsJx4a65c_size_8abf5 := goodIn_r _ [8, 9, 53, 54, 55] (by decide +kernel) (by decide +kernel)
set_option maxRecDepth 20000 in
theorem gX3_prune_Jx4a65c_size_8abf5 : GoodIn wsX3_prune (wsV RX3 42 RJx4a65c yJx4a65c_size_8abf5 wsJx4a65c_size_8abf5) := goodIn_app (goodIn_of _ (by decide +kernel)) ggX3_prune_Jx4a65c_size_8abf5
set_option maxRecDepth 20000 in
theorem ggX3_prune_Jx4a65c_get_915e3 : GoodIn wsX3_prune wsJx4a65c_get_915e3 := goodIn_r _ [13, 9, 14, 15, 16, 17, 18, 19, 20, 21, 22, 23, 24, 7, 25, 26, 53, 54, 55] (by decide +kernel) (by decide +kernel)
set_option maxRecDepth 20000 in
theorem gX3_prune_Jx4a65c_get_915e3 : GoodIn wsX3_prune (wsV RX3 96 RJx4a65c yJx4a65c_get_915e3 wsJx4a65c_get_915e3) := goodIn_app (goodIn_of _ (by decide +kernel)) ggX3_prune_Jx4a65c_get_915e3
set_option maxRecDepth 20000 in
theorem ggX3_prune_X1_isReadableFromPack : GoodIn wsX3_prune wsX1_isReadableFromPack := goodIn_r _ [31, 32, 33, 34, 35, 36, 30, 37, 38, 44, 45, 46, 47, 48, 49, 50, 51, 52, 56, 57, 58, 59, 60] (by decide +kernel) (by decide +kernel)
set_option maxRecDepth 20000 in
theorem gX3_prune_X1_isReadableFromPack : GoodIn wsX3_prune (wsV RX3 118 RX1 yX1_isReadableFromPack wsX1_isReadableFromPack) := goodIn_app (goodIn_of _ (by decide +kernel)) ggX3_prune_X1_isReadableFromPack
set_option maxRecDepth 20000 in
theorem ggX3_damage_X3_formOf : GoodIn wsX3_damage wsX3_formOf := goodIn_ca (goodIn_ca (goodIn_r _ [8, 1, 2, 9, 10, 11, 12, 7, 13, 14, 15, 16, 17, 18, 19, 20, 21, 22, 23, 24, 25, 26, 27, 28, 29, 30, 31, 32, 33, 34, 35, 36, 37, 38, 39, 40, 63, 64, 65, 66, 67, 68, 69, 70, 71, 72, 73, 74, 75, 76, 77, 78, 79] (by decide +kernel) (by decide +kernel)) (goodIn_sub (fun _ h => List.mem_cons_of_mem _ (List.mem_append_left _ (List.mem_append_right _ h))) (by decide +kernel))) (goodIn_sub (fun _ h => List.mem_cons_of_mem _ (List.mem_append_right _ h)) (by decide +kernel))
set_option maxRecDepth 20000 in
theorem gX3_damage_X3_formOf : GoodIn wsX3_damage (wsV RX3 121 RX3 yX3_formOf wsX3_formOf) := goodIn_app (goodIn_of _ (by decide +kernel)) ggX3_damage_X3_formOf
set_option maxRecDepth 20000 in
theorem ggX3_damage_X3_countReadableFromPack : GoodIn wsX3_damage wsX3_countReadableFromPack := goodIn_r _ [44, 45, 17, 18, 19, 20, 21, 22, 23, 24, 25, 26, 27, 28, 29, 30, 31, 32, 33, 34, 35, 36, 37, 38, 39, 40, 46, 47, 48, 49, 50, 51, 52, 53, 54, 55, 56, 57, 72, 73, 74, 75, 76, 77, 78, 79, 63, 64, 65, 66, 67, 68, 69, 70, 71, 58, 59, 60, 61, 62] (by decide +kernel) (by decide +kernel)
set_option maxRecDepth 20000 in
theorem gX3_damage_X3_countReadableFromPack : GoodIn wsX3_damage (wsV RX3 132 RX3 yX3_countReadableFromPack wsX3_countReadableFromPack) := goodIn_app (goodIn_of _ (by decide +kernel)) ggX3_damage_X3_countReadableFromPack
set_option maxRecDepth 20000 in
theorem ggX3_forms_Jx4a65c_size_8abf5 : GoodIn wsX3_forms wsJx4a65c_size_8abf5 := goodIn_r _ [6, 7, 13, 14, 15] (by decide +kernel) (by decide +kernel)
set_option maxRecDepth 20000 in
theorem gX3_forms_Jx4a65c_size_8abf5 : GoodIn wsX3_forms (wsV RX3 42 RJx4a65c yJx4a65c_size_8abf5 wsJx4a65c_size_8abf5) := goodIn_app (goodIn_of _ (by decide +kernel)) ggX3_forms_Jx4a65c_size_8abf5
set_option maxRecDepth 20000 in
theorem ggX3_cost_Jx4a65c_size_8abf5 : GoodIn wsX3_cost wsJx4a65c_size_8abf5 := goodIn_r _ [9, 10, 47, 48, 49] (by decide +kernel) (by decide +kernel)
set_option maxRecDepth 20000 in
theorem gX3_cost_Jx4a65c_size_8abf5 : GoodIn wsX3_cost (wsV RX3 42 RJx4a65c yJx4a65c_size_8abf5 wsJx4a65c_size_8abf5) := goodIn_app (goodIn_of _ (by decide +kernel)) ggX3_cost_Jx4a65c_size_8abf5
set_option maxRecDepth 20000 in
theorem ggX3_cost_Jx4a65c_get_915e3 : GoodIn wsX3_cost wsJx4a65c_get_915e3 := goodIn_r _ [14, 10, 15, 16, 17, 18, 19, 20, 21, 22, 23, 24, 25, 8, 26, 27, 47, 48, 49] (by decide +kernel) (by decide +kernel)
set_option maxRecDepth 20000 in
theorem gX3_cost_Jx4a65c_get_915e3 : GoodIn wsX3_cost (wsV RX3 96 RJx4a65c yJx4a65c_get_915e3 wsJx4a65c_get_915e3) := goodIn_app (goodIn_of _ (by decide +kernel)) ggX3_cost_Jx4a65c_get_915e3
set_option maxRecDepth 20000 in
theorem ggX3_costOf_X3_formOf : GoodIn wsX3_costOf wsX3_formOf := goodIn_ca (goodIn_ca (goodIn_r _ [6, 7, 8, 9, 10, 11, 12, 5, 13, 14, 15, 16, 17, 18, 19, 20, 21, 22, 23, 24, 25, 26, 27, 28, 29, 30, 31, 32, 33, 34, 35, 36, 37, 38, 39, 40, 46, 47, 48, 49, 50, 51, 52, 53, 54, 55, 56, 57, 58, 59, 60, 61, 62] (by decide +kernel) (by decide +kernel)) (goodIn_sub (fun _ h => List.mem_cons_of_mem _ (List.mem_append_left _ (List.mem_append_right _ h))) (by decide +kernel))) (goodIn_sub (fun _ h => List.mem_cons_of_mem _ (List.mem_append_right _ h)) (by decide +kernel))
set_option maxRecDepth 20000 in
theorem gX3_costOf_X3_formOf : GoodIn wsX3_costOf (wsV RX3 121 RX3 yX3_formOf wsX3_formOf) := goodIn_app (goodIn_of _ (by decide +kernel)) ggX3_costOf_X3_formOf
set_option maxRecDepth 20000 in
theorem ggX3_base_X3_formOf : GoodIn wsX3_base wsX3_formOf := goodIn_ca (goodIn_ca (goodIn_r _ [7, 8, 9, 10, 11, 12, 13, 6, 14, 15, 16, 17, 18, 19, 20, 21, 22, 23, 24, 25, 26, 27, 28, 29, 30, 31, 32, 33, 34, 35, 36, 37, 38, 39, 40, 41, 47, 48, 49, 50, 51, 52, 53, 54, 55, 56, 57, 58, 59, 60, 61, 62, 63] (by decide +kernel) (by decide +kernel)) (goodIn_sub (fun _ h => List.mem_cons_of_mem _ (List.mem_append_left _ (List.mem_append_right _ h))) (by decide +kernel))) (goodIn_sub (fun _ h => List.mem_cons_of_mem _ (List.mem_append_right _ h)) (by decide +kernel))
set_option maxRecDepth 20000 in
theorem gX3_base_X3_formOf : GoodIn wsX3_base (wsV RX3 121 RX3 yX3_formOf wsX3_formOf) := goodIn_app (goodIn_of _ (by decide +kernel)) ggX3_base_X3_formOf
set_option maxRecDepth 20000 in
theorem ggX3_depth_X3_formOf : GoodIn wsX3_depth wsX3_formOf := goodIn_ca (goodIn_ca (goodIn_r _ [6, 7, 8, 9, 10, 11, 12, 5, 13, 14, 15, 16, 17, 18, 19, 20, 21, 22, 23, 24, 25, 26, 27, 28, 29, 30, 31, 32, 33, 34, 35, 36, 37, 38, 39, 40, 46, 47, 48, 49, 50, 51, 52, 53, 54, 55, 56, 57, 58, 59, 60, 61, 62] (by decide +kernel) (by decide +kernel)) (goodIn_sub (fun _ h => List.mem_cons_of_mem _ (List.mem_append_left _ (List.mem_append_right _ h))) (by decide +kernel))) (goodIn_sub (fun _ h => List.mem_cons_of_mem _ (List.mem_append_right _ h)) (by decide +kernel))
set_option maxRecDepth 20000 in
theorem gX3_depth_X3_formOf : GoodIn wsX3_depth (wsV RX3 121 RX3 yX3_formOf wsX3_formOf) := goodIn_app (goodIn_of _ (by decide +kernel)) ggX3_depth_X3_formOf
set_option maxRecDepth 20000 in
theorem ggX3_parts_X3_formOf : GoodIn wsX3_parts wsX3_formOf := goodIn_ca (goodIn_ca (goodIn_r _ [6, 7, 8, 9, 10, 11, 12, 5, 13, 14, 15, 16, 17, 18, 19, 20, 21, 22, 23, 24, 25, 26, 27, 28, 29, 30, 31, 32, 33, 34, 35, 36, 37, 38, 39, 40, 46, 47, 48, 49, 50, 51, 52, 53, 54, 55, 56, 57, 58, 59, 60, 61, 62] (by decide +kernel) (by decide +kernel)) (goodIn_sub (fun _ h => List.mem_cons_of_mem _ (List.mem_append_left _ (List.mem_append_right _ h))) (by decide +kernel))) (goodIn_sub (fun _ h => List.mem_cons_of_mem _ (List.mem_append_right _ h)) (by decide +kernel))
set_option maxRecDepth 20000 in
theorem gX3_parts_X3_formOf : GoodIn wsX3_parts (wsV RX3 121 RX3 yX3_formOf wsX3_formOf) := goodIn_app (goodIn_of _ (by decide +kernel)) ggX3_parts_X3_formOf
set_option maxRecDepth 20000 in
theorem ggX3_dependents_X3_itemOf : GoodIn wsX3_dependents wsX3_itemOf := goodIn_ca (goodIn_r _ [10, 11, 12, 13, 5, 14, 15, 16, 17, 18, 19, 20, 21, 22, 23, 24, 25, 26, 27, 28, 29, 30, 31, 32, 33, 34, 35, 36, 57, 58, 59, 60, 61, 62, 63, 64] (by decide +kernel) (by decide +kernel)) (goodIn_sub (fun _ h => List.mem_cons_of_mem _ (List.mem_append_right _ h)) (by decide +kernel))
set_option maxRecDepth 20000 in
theorem gX3_dependents_X3_itemOf : GoodIn wsX3_dependents (wsV RX3 60 RX3 yX3_itemOf wsX3_itemOf) := goodIn_app (goodIn_of _ (by decide +kernel)) ggX3_dependents_X3_itemOf
set_option maxRecDepth 20000 in
theorem ggX3_dependents_Jx4a65c_size_8abf5 : GoodIn wsX3_dependents wsJx4a65c_size_8abf5 := goodIn_r _ [18, 19, 62, 63, 64] (by decide +kernel) (by decide +kernel)
set_option maxRecDepth 20000 in
theorem gX3_dependents_Jx4a65c_size_8abf5 : GoodIn wsX3_dependents (wsV RX3 42 RJx4a65c yJx4a65c_size_8abf5 wsJx4a65c_size_8abf5) := goodIn_app (goodIn_of _ (by decide +kernel)) ggX3_dependents_Jx4a65c_size_8abf5
set_option maxRecDepth 20000 in
theorem ggX3_dependents_Jx4a65c_get_915e3 : GoodIn wsX3_dependents wsJx4a65c_get_915e3 := goodIn_r _ [23, 19, 24, 25, 26, 27, 28, 29, 30, 31, 32, 33, 34, 17, 35, 36, 62, 63, 64] (by decide +kernel) (by decide +kernel)
set_option maxRecDepth 20000 in
theorem gX3_dependents_Jx4a65c_get_915e3 : GoodIn wsX3_dependents (wsV RX3 96 RJx4a65c yJx4a65c_get_915e3 wsJx4a65c_get_915e3) := goodIn_app (goodIn_of _ (by decide +kernel)) ggX3_dependents_Jx4a65c_get_915e3
set_option maxRecDepth 20000 in
theorem ggX3_dependents_X1_dependsOn : GoodIn wsX3_dependents wsX1_dependsOn := goodIn_r _ [41, 42, 43, 44, 40, 45, 46, 47, 48, 49, 50, 51, 52, 53, 54, 55, 56, 65, 66, 67, 68, 69] (by decide +kernel) (by decide +kernel)
set_option maxRecDepth 20000 in
theorem gX3_dependents_X1_dependsOn : GoodIn wsX3_dependents (wsV RX3 152 RX1 yX1_dependsOn wsX1_dependsOn) := goodIn_app (goodIn_of _ (by decide +kernel)) ggX3_dependents_X1_dependsOn
set_option maxRecDepth 20000 in
theorem ggX3_deltaCost_X3_itemOf : GoodIn wsX3_deltaCost wsX3_itemOf := goodIn_ca (goodIn_r _ [5, 6, 7, 8, 9, 10, 11, 12, 13, 14, 15, 16, 17, 18, 19, 20, 21, 22, 23, 24, 25, 26, 27, 28, 29, 30, 31, 32, 62, 63, 64, 65, 66, 67, 68, 69] (by decide +kernel) (by decide +kernel)) (goodIn_sub (fun _ h => List.mem_cons_of_mem _ (List.mem_append_right _ h)) (by decide +kernel))
set_option maxRecDepth 20000 in
theorem gX3_deltaCost_X3_itemOf : GoodIn wsX3_deltaCost (wsV RX3 60 RX3 yX3_itemOf wsX3_itemOf) := goodIn_app (goodIn_of _ (by decide +kernel)) ggX3_deltaCost_X3_itemOf
set_option maxRecDepth 20000 in
theorem ggX3_deltaCost_X3_costAgainst : GoodIn wsX3_deltaCost wsX3_costAgainst := goodIn_r _ [35, 36, 37, 4, 38, 39, 40, 41, 42, 43, 44, 45, 46, 47, 48, 49, 50, 51, 52, 53, 54, 55, 56, 57, 58, 59, 60, 61, 70, 71, 72, 73, 74, 75, 76, 77, 78] (by decide +kernel) (by decide +kernel)
set_option maxRecDepth 20000 in
theorem gX3_deltaCost_X3_costAgainst : GoodIn wsX3_deltaCost (va_wsS RX3 156 yX3_costAgainst wsX3_costAgainst) := goodIn_app (goodIn_of _ (by decide +kernel)) ggX3_deltaCost_X3_costAgainst
set_option maxRecDepth 20000 in
theorem ggX3_hash_X3_isContent : GoodIn wsX3_hash wsX3_isContent := goodIn_r _ [6, 7, 8] (by decide +kernel) (by decide +kernel)
set_option maxRecDepth 20000 in
theorem gX3_hash_X3_isContent : GoodIn wsX3_hash (va_wsS RX3 36 yX3_isContent wsX3_isContent) := goodIn_app (goodIn_of _ (by decide +kernel)) ggX3_hash_X3_isContent
set_option maxRecDepth 20000 in
theorem ggX3_hash_X3_hashOf : GoodIn wsX3_hash wsX3_hashOf := goodIn_r _ [11, 12, 13, 5, 14, 15, 16, 17] (by decide +kernel) (by decide +kernel)
set_option maxRecDepth 20000 in
theorem gX3_hash_X3_hashOf : GoodIn wsX3_hash (va_wsS RX3 160 yX3_hashOf wsX3_hashOf) := goodIn_app (goodIn_of _ (by decide +kernel)) ggX3_hash_X3_hashOf
set_option maxRecDepth 20000 in
theorem ggX3_indexAt_Jx4a65c_size_8abf5 : GoodIn wsX3_indexAt wsJx4a65c_size_8abf5 := goodIn_r _ [10, 11, 43, 44, 45] (by decide +kernel) (by decide +kernel)
set_option maxRecDepth 20000 in
theorem gX3_indexAt_Jx4a65c_size_8abf5 : GoodIn wsX3_indexAt (wsV RX3 42 RJx4a65c yJx4a65c_size_8abf5 wsJx4a65c_size_8abf5) := goodIn_app (goodIn_of _ (by decide +kernel)) ggX3_indexAt_Jx4a65c_size_8abf5
set_option maxRecDepth 20000 in
theorem ggX3_indexAt_Jx4a65c_get_915e3 : GoodIn wsX3_indexAt wsJx4a65c_get_915e3 := goodIn_r _ [15, 11, 16, 17, 18, 19, 20, 21, 22, 23, 24, 25, 26, 9, 27, 28, 43, 44, 45] (by decide +kernel) (by decide +kernel)
set_option maxRecDepth 20000 in
theorem gX3_indexAt_Jx4a65c_get_915e3 : GoodIn wsX3_indexAt (wsV RX3 96 RJx4a65c yJx4a65c_get_915e3 wsJx4a65c_get_915e3) := goodIn_app (goodIn_of _ (by decide +kernel)) ggX3_indexAt_Jx4a65c_get_915e3
set_option maxRecDepth 20000 in
theorem ggX3_fanOut_X3_countHashesBelow : GoodIn wsX3_fanOut wsX3_countHashesBelow := goodIn_r _ [7, 8, 9, 10, 11, 12, 13, 14, 15, 16, 17, 18, 19, 20, 21, 22, 23, 24, 25, 26, 27, 28, 29, 30, 31, 32, 33, 34, 35, 36, 37, 38, 39, 40, 41, 42, 43, 44, 45, 46, 47, 48, 49, 50] (by decide +kernel) (by decide +kernel)
set_option maxRecDepth 20000 in
theorem gX3_fanOut_X3_countHashesBelow : GoodIn wsX3_fanOut (wsV RX3 171 RX3 yX3_countHashesBelow wsX3_countHashesBelow) := goodIn_app (goodIn_of _ (by decide +kernel)) ggX3_fanOut_X3_countHashesBelow
set_option maxRecDepth 20000 in
theorem ggX3_find_X3_lookUp : GoodIn wsX3_find wsX3_lookUp := goodIn_ca (goodIn_r _ [7, 8, 9, 10, 11, 12, 13, 14, 15, 16, 1, 17, 18, 19, 20, 21, 22, 23, 24, 25, 26, 27, 6, 28, 29, 30, 31, 32, 33, 34, 35, 36, 37, 38, 39, 40, 41, 42, 43, 44, 45, 46, 47, 48, 49, 50, 51, 52, 53, 63, 64, 65, 66, 67, 54, 55, 56, 57, 58, 59, 60, 61, 62, 68, 69, 70] (by decide +kernel) (by decide +kernel)) (goodIn_sub (fun _ h => List.mem_cons_of_mem _ (List.mem_append_right _ h)) (by decide +kernel))
set_option maxRecDepth 20000 in
theorem gX3_find_X3_lookUp : GoodIn wsX3_find (wsV RX3 175 RX3 yX3_lookUp wsX3_lookUp) := goodIn_app (goodIn_of _ (by decide +kernel)) ggX3_find_X3_lookUp
set_option maxRecDepth 20000 in
theorem ggX3_looks_X3_lookUp : GoodIn wsX3_looks wsX3_lookUp := goodIn_ca (goodIn_r _ [6, 7, 8, 9, 10, 11, 12, 13, 1, 14, 15, 16, 17, 18, 19, 20, 21, 22, 23, 24, 25, 26, 5, 27, 28, 29, 30, 31, 32, 33, 34, 35, 36, 37, 38, 39, 40, 41, 42, 43, 44, 45, 46, 47, 48, 49, 50, 51, 52, 53, 54, 55, 56, 57, 58, 59, 60, 61, 62, 63, 64, 65, 66, 67, 68, 69] (by decide +kernel) (by decide +kernel)) (goodIn_sub (fun _ h => List.mem_cons_of_mem _ (List.mem_append_right _ h)) (by decide +kernel))
set_option maxRecDepth 20000 in
theorem gX3_looks_X3_lookUp : GoodIn wsX3_looks (wsV RX3 175 RX3 yX3_lookUp wsX3_lookUp) := goodIn_app (goodIn_of _ (by decide +kernel)) ggX3_looks_X3_lookUp
set_option maxRecDepth 20000 in
theorem ggX3_itemOf_Jx4a65c_size_8abf5 : GoodIn wsX3_itemOf wsJx4a65c_size_8abf5 := goodIn_r _ [9, 10, 33, 34, 35] (by decide +kernel) (by decide +kernel)
set_option maxRecDepth 20000 in
theorem gX3_itemOf_Jx4a65c_size_8abf5 : GoodIn wsX3_itemOf (wsV RX3 42 RJx4a65c yJx4a65c_size_8abf5 wsJx4a65c_size_8abf5) := goodIn_app (goodIn_of _ (by decide +kernel)) ggX3_itemOf_Jx4a65c_size_8abf5
set_option maxRecDepth 20000 in
theorem ggX3_itemOf_Jx4a65c_get_915e3 : GoodIn wsX3_itemOf wsJx4a65c_get_915e3 := goodIn_r _ [14, 10, 15, 16, 17, 18, 19, 20, 21, 22, 23, 24, 25, 8, 26, 27, 33, 34, 35] (by decide +kernel) (by decide +kernel)
set_option maxRecDepth 20000 in
theorem gX3_itemOf_Jx4a65c_get_915e3 : GoodIn wsX3_itemOf (wsV RX3 96 RJx4a65c yJx4a65c_get_915e3 wsJx4a65c_get_915e3) := goodIn_app (goodIn_of _ (by decide +kernel)) ggX3_itemOf_Jx4a65c_get_915e3
set_option maxRecDepth 20000 in
theorem ggX3_formOf_X3_itemOf : GoodIn wsX3_formOf wsX3_itemOf := goodIn_ca (goodIn_r _ [8, 9, 10, 11, 12, 13, 14, 15, 16, 17, 18, 19, 20, 21, 22, 23, 24, 25, 26, 27, 28, 29, 30, 31, 32, 33, 34, 35, 45, 46, 47, 48, 49, 50, 51, 52] (by decide +kernel) (by decide +kernel)) (goodIn_sub (fun _ h => List.mem_cons_of_mem _ (List.mem_append_right _ h)) (by decide +kernel))
set_option maxRecDepth 20000 in
theorem gX3_formOf_X3_itemOf : GoodIn wsX3_formOf (wsV RX3 60 RX3 yX3_itemOf wsX3_itemOf) := goodIn_app (goodIn_of _ (by decide +kernel)) ggX3_formOf_X3_itemOf
set_option maxRecDepth 20000 in
theorem ggX3_countLive_Jx4a65c_size_8abf5 : GoodIn wsX3_countLive wsJx4a65c_size_8abf5 := goodIn_r _ [8, 9, 41, 42, 43] (by decide +kernel) (by decide +kernel)
set_option maxRecDepth 20000 in
theorem gX3_countLive_Jx4a65c_size_8abf5 : GoodIn wsX3_countLive (wsV RX3 42 RJx4a65c yJx4a65c_size_8abf5 wsJx4a65c_size_8abf5) := goodIn_app (goodIn_of _ (by decide +kernel)) ggX3_countLive_Jx4a65c_size_8abf5
set_option maxRecDepth 20000 in
theorem ggX3_countLive_Jx4a65c_get_915e3 : GoodIn wsX3_countLive wsJx4a65c_get_915e3 := goodIn_r _ [13, 9, 14, 15, 16, 17, 18, 19, 20, 21, 22, 23, 24, 7, 25, 26, 41, 42, 43] (by decide +kernel) (by decide +kernel)
set_option maxRecDepth 20000 in
theorem gX3_countLive_Jx4a65c_get_915e3 : GoodIn wsX3_countLive (wsV RX3 96 RJx4a65c yJx4a65c_get_915e3 wsJx4a65c_get_915e3) := goodIn_app (goodIn_of _ (by decide +kernel)) ggX3_countLive_Jx4a65c_get_915e3
set_option maxRecDepth 20000 in
theorem ggX3_countReadableFromPack_Jx4a65c_size_8abf5 : GoodIn wsX3_countReadableFromPack wsJx4a65c_size_8abf5 := goodIn_r _ [7, 8, 43, 44, 45] (by decide +kernel) (by decide +kernel)
set_option maxRecDepth 20000 in
theorem gX3_countReadableFromPack_Jx4a65c_size_8abf5 : GoodIn wsX3_countReadableFromPack (wsV RX3 42 RJx4a65c yJx4a65c_size_8abf5 wsJx4a65c_size_8abf5) := goodIn_app (goodIn_of _ (by decide +kernel)) ggX3_countReadableFromPack_Jx4a65c_size_8abf5
set_option maxRecDepth 20000 in
theorem ggX3_countReadableFromPack_Jx4a65c_get_915e3 : GoodIn wsX3_countReadableFromPack wsJx4a65c_get_915e3 := goodIn_r _ [12, 8, 13, 14, 15, 16, 17, 18, 19, 20, 21, 22, 23, 6, 24, 25, 43, 44, 45] (by decide +kernel) (by decide +kernel)
set_option maxRecDepth 20000 in
theorem gX3_countReadableFromPack_Jx4a65c_get_915e3 : GoodIn wsX3_countReadableFromPack (wsV RX3 96 RJx4a65c yJx4a65c_get_915e3 wsJx4a65c_get_915e3) := goodIn_app (goodIn_of _ (by decide +kernel)) ggX3_countReadableFromPack_Jx4a65c_get_915e3
set_option maxRecDepth 20000 in
theorem ggX3_countReadableFromPack_X1_isReadableFromPack : GoodIn wsX3_countReadableFromPack wsX1_isReadableFromPack := goodIn_r _ [30, 31, 32, 33, 34, 35, 29, 36, 37, 46, 47, 48, 49, 50, 51, 52, 53, 54, 55, 56, 57, 58, 59] (by decide +kernel) (by decide +kernel)
set_option maxRecDepth 20000 in
theorem gX3_countReadableFromPack_X1_isReadableFromPack : GoodIn wsX3_countReadableFromPack (wsV RX3 118 RX1 yX1_isReadableFromPack wsX1_isReadableFromPack) := goodIn_app (goodIn_of _ (by decide +kernel)) ggX3_countReadableFromPack_X1_isReadableFromPack
set_option maxRecDepth 20000 in
theorem ggX3_fillOrder_Jx4a65c_clear_da8c8 : GoodIn wsX3_fillOrder wsJx4a65c_clear_da8c8 := goodIn_r _ [8, 9, 10, 11, 12, 119, 120, 121] (by decide +kernel) (by decide +kernel)
set_option maxRecDepth 20000 in
theorem gX3_fillOrder_Jx4a65c_clear_da8c8 : GoodIn wsX3_fillOrder (wsV RX3 189 RJx4a65c yJx4a65c_clear_da8c8 wsJx4a65c_clear_da8c8) := goodIn_app (goodIn_of _ (by decide +kernel)) ggX3_fillOrder_Jx4a65c_clear_da8c8
set_option maxRecDepth 20000 in
theorem ggX3_fillOrder_Jx4a65c_size_8abf5 : GoodIn wsX3_fillOrder wsJx4a65c_size_8abf5 := goodIn_r _ [16, 12, 119, 120, 121] (by decide +kernel) (by decide +kernel)
set_option maxRecDepth 20000 in
theorem gX3_fillOrder_Jx4a65c_size_8abf5 : GoodIn wsX3_fillOrder (wsV RX3 42 RJx4a65c yJx4a65c_size_8abf5 wsJx4a65c_size_8abf5) := goodIn_app (goodIn_of _ (by decide +kernel)) ggX3_fillOrder_Jx4a65c_size_8abf5
set_option maxRecDepth 20000 in
theorem ggX3_fillOrder_Jx4a65c_get_915e3 : GoodIn wsX3_fillOrder wsJx4a65c_get_915e3 := goodIn_r _ [20, 12, 21, 22, 23, 24, 25, 26, 27, 28, 29, 30, 31, 7, 32, 11, 119, 120, 121] (by decide +kernel) (by decide +kernel)
set_option maxRecDepth 20000 in
theorem gX3_fillOrder_Jx4a65c_get_915e3 : GoodIn wsX3_fillOrder (wsV RX3 96 RJx4a65c yJx4a65c_get_915e3 wsJx4a65c_get_915e3) := goodIn_app (goodIn_of _ (by decide +kernel)) ggX3_fillOrder_Jx4a65c_get_915e3
set_option maxRecDepth 20000 in
theorem ggX3_fillOrder_X1_isReadable : GoodIn wsX3_fillOrder wsX1_isReadable := goodIn_r _ [37, 38, 39, 40, 41, 42, 36, 43, 44, 45, 46, 47, 48, 49, 50, 122, 123, 124, 125, 126, 127, 128, 129, 130, 131, 132, 133, 134, 135] (by decide +kernel) (by decide +kernel)
set_option maxRecDepth 20000 in
theorem gX3_fillOrder_X1_isReadable : GoodIn wsX3_fillOrder (wsV RX3 76 RX1 yX1_isReadable wsX1_isReadable) := goodIn_app (goodIn_of _ (by decide +kernel)) ggX3_fillOrder_X1_isReadable
set_option maxRecDepth 20000 in
theorem ggX3_fillOrder_X3_insertInOrder : GoodIn wsX3_fillOrder wsX3_insertInOrder := goodIn_r _ [55, 1, 3, 13, 14, 15, 7, 16, 12, 17, 18, 19, 20, 21, 22, 23, 24, 25, 26, 27, 28, 29, 30, 31, 32, 11, 56, 57, 54, 58, 59, 60, 61, 62, 63, 64, 65, 9, 10, 66, 67, 68, 69, 70, 71, 72, 73, 74, 75, 76, 77, 78, 79, 80, 81, 82, 83, 84, 85, 86, 87, 88, 89, 90, 91, 92, 93, 94, 95, 96, 97, 98, 99, 100, 101, 102, 103, 104, 105, 106, 107, 108, 109, 110, 111, 112, 113, 114, 115, 116, 117, 118, 119, 120, 121, 122, 123, 124, 125, 126, 127, 128, 129, 130] (by decide +kernel) (by decide +kernel)
set_option maxRecDepth 20000 in
theorem gX3_fillOrder_X3_insertInOrder : GoodIn wsX3_fillOrder (wsV RX3 192 RX3 yX3_insertInOrder wsX3_insertInOrder) := goodIn_app (goodIn_of _ (by decide +kernel)) ggX3_fillOrder_X3_insertInOrder
set_option maxRecDepth 20000 in
theorem ggX3_insertInOrder_Jx4a65c_size_8abf5 : GoodIn wsX3_insertInOrder wsJx4a65c_size_8abf5 := goodIn_r _ [7, 8, 92, 93, 94] (by decide +kernel) (by decide +kernel)
set_option maxRecDepth 20000 in
theorem gX3_insertInOrder_Jx4a65c_size_8abf5 : GoodIn wsX3_insertInOrder (wsV RX3 42 RJx4a65c yJx4a65c_size_8abf5 wsJx4a65c_size_8abf5) := goodIn_app (goodIn_of _ (by decide +kernel)) ggX3_insertInOrder_Jx4a65c_size_8abf5
set_option maxRecDepth 20000 in
theorem ggX3_insertInOrder_Jx4a65c_get_915e3 : GoodIn wsX3_insertInOrder wsJx4a65c_get_915e3 := goodIn_r _ [12, 8, 13, 14, 15, 16, 17, 18, 19, 20, 21, 22, 23, 6, 24, 25, 92, 93, 94] (by decide +kernel) (by decide +kernel)
set_option maxRecDepth 20000 in
theorem gX3_insertInOrder_Jx4a65c_get_915e3 : GoodIn wsX3_insertInOrder (wsV RX3 96 RJx4a65c yJx4a65c_get_915e3 wsJx4a65c_get_915e3) := goodIn_app (goodIn_of _ (by decide +kernel)) ggX3_insertInOrder_Jx4a65c_get_915e3
set_option maxRecDepth 20000 in
theorem ggX3_insertInOrder_X3_isPackedAhead : GoodIn wsX3_insertInOrder wsX3_isPackedAhead := goodIn_r _ [29, 30, 31, 32, 95, 96, 97, 98, 99, 100, 101, 102, 103] (by decide +kernel) (by decide +kernel)
set_option maxRecDepth 20000 in
theorem gX3_insertInOrder_X3_isPackedAhead : GoodIn wsX3_insertInOrder (va_wsS RX3 196 yX3_isPackedAhead wsX3_isPackedAhead) := goodIn_app (goodIn_of _ (by decide +kernel)) ggX3_insertInOrder_X3_isPackedAhead
set_option maxRecDepth 20000 in
theorem ggX3_insertInOrder_Jx4a65c_add_7a177 : GoodIn wsX3_insertInOrder wsJx4a65c_add_7a177 := goodIn_r _ [36, 37, 38, 8, 25, 39, 40, 41, 42, 43, 44, 45, 6, 46, 47, 48, 49, 50, 51, 52, 53, 54, 55, 56, 57, 58, 59, 60, 61, 62, 63, 64, 65, 66, 67, 68, 69, 70, 71, 72, 73, 74, 75, 76, 77, 78, 79, 80, 81, 82, 83, 84, 85, 86, 92, 93, 94] (by decide +kernel) (by decide +kernel)
set_option maxRecDepth 20000 in
theorem gX3_insertInOrder_Jx4a65c_add_7a177 : GoodIn wsX3_insertInOrder (wsV RX3 200 RJx4a65c yJx4a65c_add_7a177 wsJx4a65c_add_7a177) := goodIn_app (goodIn_of _ (by decide +kernel)) ggX3_insertInOrder_Jx4a65c_add_7a177
set_option maxRecDepth 20000 in
theorem ggX3_putFormsAside_Jx4a65c_size_8abf5 : GoodIn wsX3_putFormsAside wsJx4a65c_size_8abf5 := goodIn_r _ [9, 10, 42, 43, 44] (by decide +kernel) (by decide +kernel)
set_option maxRecDepth 20000 in
theorem gX3_putFormsAside_Jx4a65c_size_8abf5 : GoodIn wsX3_putFormsAside (wsV RX3 42 RJx4a65c yJx4a65c_size_8abf5 wsJx4a65c_size_8abf5) := goodIn_app (goodIn_of _ (by decide +kernel)) ggX3_putFormsAside_Jx4a65c_size_8abf5
set_option maxRecDepth 20000 in
theorem ggX3_putFormsAside_Jx4a65c_get_915e3 : GoodIn wsX3_putFormsAside wsJx4a65c_get_915e3 := goodIn_r _ [14, 10, 15, 16, 17, 18, 19, 20, 21, 22, 23, 24, 25, 8, 26, 27, 42, 43, 44] (by decide +kernel) (by decide +kernel)
set_option maxRecDepth 20000 in
theorem gX3_putFormsAside_Jx4a65c_get_915e3 : GoodIn wsX3_putFormsAside (wsV RX3 96 RJx4a65c yJx4a65c_get_915e3 wsJx4a65c_get_915e3) := goodIn_app (goodIn_of _ (by decide +kernel)) ggX3_putFormsAside_Jx4a65c_get_915e3
set_option maxRecDepth 20000 in
theorem ggX3_reuseForm_X0_init : GoodIn wsX3_reuseForm wsX0_init := goodIn_r _ [14, 15, 16, 17, 18, 19, 20, 21, 22, 32, 33, 34, 35, 36] (by decide +kernel) (by decide +kernel)
set_option maxRecDepth 20000 in
theorem gX3_reuseForm_X0_init : GoodIn wsX3_reuseForm (wsX0_init) := ggX3_reuseForm_X0_init
set_option maxRecDepth 20000 in
theorem ggX3_findForm_Jx4a65c_size_8abf5 : GoodIn wsX3_findForm wsJx4a65c_size_8abf5 := goodIn_r _ [18, 19, 92, 93, 94] (by decide +kernel) (by decide +kernel)
set_option maxRecDepth 20000 in
theorem gX3_findForm_Jx4a65c_size_8abf5 : GoodIn wsX3_findForm (wsV RX3 42 RJx4a65c yJx4a65c_size_8abf5 wsJx4a65c_size_8abf5) := goodIn_app (goodIn_of _ (by decide +kernel)) ggX3_findForm_Jx4a65c_size_8abf5
set_option maxRecDepth 20000 in
theorem ggX3_findForm_Jx4a65c_get_915e3 : GoodIn wsX3_findForm wsJx4a65c_get_915e3 := goodIn_r _ [23, 19, 24, 25, 26, 27, 28, 29, 30, 31, 32, 33, 34, 17, 35, 36, 92, 93, 94] (by decide +kernel) (by decide +kernel)
set_option maxRecDepth 20000 in
theorem gX3_findForm_Jx4a65c_get_915e3 : GoodIn wsX3_findForm (wsV RX3 96 RJx4a65c yJx4a65c_get_915e3 wsJx4a65c_get_915e3) := goodIn_app (goodIn_of _ (by decide +kernel)) ggX3_findForm_Jx4a65c_get_915e3
set_option maxRecDepth 20000 in
theorem ggX3_findForm_X3_costAgainst : GoodIn wsX3_findForm wsX3_costAgainst := goodIn_r _ [40, 41, 42, 39, 43, 1, 44, 45, 46, 47, 48, 5, 49, 50, 51, 52, 3, 4, 6, 53, 54, 55, 56, 57, 58, 59, 60, 61, 73, 74, 75, 76, 77, 78, 79, 80, 81] (by decide +kernel) (by decide +kernel)
set_option maxRecDepth 20000 in
theorem gX3_findForm_X3_costAgainst : GoodIn wsX3_findForm (va_wsS RX3 156 yX3_costAgainst wsX3_costAgainst) := goodIn_app (goodIn_of _ (by decide +kernel)) ggX3_findForm_X3_costAgainst
set_option maxRecDepth 20000 in
theorem ggX3_findForm_X3_weighParts : GoodIn wsX3_findForm wsX3_weighParts := goodIn_r _ [43, 1, 44, 45, 39, 46, 47, 48, 5, 49, 50, 51, 52, 3, 4, 6, 53, 54, 55, 56, 57, 58, 59, 60, 61, 73, 74, 75, 76, 77, 78, 79, 80, 81] (by decide +kernel) (by decide +kernel)
set_option maxRecDepth 20000 in
theorem gX3_findForm_X3_weighParts : GoodIn wsX3_findForm (va_wsS RX3 221 yX3_weighParts wsX3_weighParts) := goodIn_app (goodIn_of _ (by decide +kernel)) ggX3_findForm_X3_weighParts
set_option maxRecDepth 20000 in
theorem ggX3_findForm_X0_init : GoodIn wsX3_findForm wsX0_init := goodIn_r _ [64, 65, 66, 67, 68, 69, 70, 71, 72, 87, 88, 89, 90, 91] (by decide +kernel) (by decide +kernel)
set_option maxRecDepth 20000 in
theorem gX3_findForm_X0_init : GoodIn wsX3_findForm (wsX0_init) := ggX3_findForm_X0_init
set_option maxRecDepth 20000 in
theorem ggX3_fillIndex_Jx4a65c_clear_da8c8 : GoodIn wsX3_fillIndex wsJx4a65c_clear_da8c8 := goodIn_r _ [8, 9, 10, 11, 12, 100, 101, 102] (by decide +kernel) (by decide +kernel)
set_option maxRecDepth 20000 in
theorem gX3_fillIndex_Jx4a65c_clear_da8c8 : GoodIn wsX3_fillIndex (wsV RX3 189 RJx4a65c yJx4a65c_clear_da8c8 wsJx4a65c_clear_da8c8) := goodIn_app (goodIn_of _ (by decide +kernel)) ggX3_fillIndex_Jx4a65c_clear_da8c8
set_option maxRecDepth 20000 in
theorem ggX3_fillIndex_Jx4a65c_size_8abf5 : GoodIn wsX3_fillIndex wsJx4a65c_size_8abf5 := goodIn_r _ [16, 12, 100, 101, 102] (by decide +kernel) (by decide +kernel)
set_option maxRecDepth 20000 in
theorem gX3_fillIndex_Jx4a65c_size_8abf5 : GoodIn wsX3_fillIndex (wsV RX3 42 RJx4a65c yJx4a65c_size_8abf5 wsJx4a65c_size_8abf5) := goodIn_app (goodIn_of _ (by decide +kernel)) ggX3_fillIndex_Jx4a65c_size_8abf5
set_option maxRecDepth 20000 in
theorem ggX3_fillIndex_Jx4a65c_get_915e3 : GoodIn wsX3_fillIndex wsJx4a65c_get_915e3 := goodIn_r _ [20, 12, 21, 22, 23, 24, 25, 26, 27, 28, 29, 30, 31, 7, 32, 11, 100, 101, 102] (by decide +kernel) (by decide +kernel)
set_option maxRecDepth 20000 in
theorem gX3_fillIndex_Jx4a65c_get_915e3 : GoodIn wsX3_fillIndex (wsV RX3 96 RJx4a65c yJx4a65c_get_915e3 wsJx4a65c_get_915e3) := goodIn_app (goodIn_of _ (by decide +kernel)) ggX3_fillIndex_Jx4a65c_get_915e3
set_option maxRecDepth 20000 in
theorem ggX3_fillIndex_X3_insertInIndex : GoodIn wsX3_fillIndex wsX3_insertInIndex := goodIn_r _ [37, 1, 3, 13, 14, 15, 7, 16, 12, 17, 18, 19, 20, 21, 22, 23, 24, 25, 26, 27, 28, 29, 30, 31, 32, 11, 38, 39, 36, 40, 41, 42, 43, 44, 45, 46, 9, 10, 47, 48, 49, 50, 51, 52, 53, 54, 55, 56, 57, 58, 59, 60, 61, 62, 63, 64, 65, 66, 67, 68, 69, 70, 71, 72, 73, 74, 75, 76, 77, 78, 79, 80, 81, 82, 83, 84, 85, 86, 87, 88, 89, 90, 91, 92, 93, 94, 95, 96, 97, 98, 99, 100, 101, 102, 103, 104, 105, 106, 107, 108, 109, 110, 111] (by decide +kernel) (by decide +kernel)
set_option maxRecDepth 20000 in
theorem gX3_fillIndex_X3_insertInIndex : GoodIn wsX3_fillIndex (wsV RX3 225 RX3 yX3_insertInIndex wsX3_insertInIndex) := goodIn_app (goodIn_of _ (by decide +kernel)) ggX3_fillIndex_X3_insertInIndex
set_option maxRecDepth 20000 in
theorem ggX3_insertInIndex_Jx4a65c_size_8abf5 : GoodIn wsX3_insertInIndex wsJx4a65c_size_8abf5 := goodIn_r _ [7, 8, 91, 92, 93] (by decide +kernel) (by decide +kernel)
set_option maxRecDepth 20000 in
theorem gX3_insertInIndex_Jx4a65c_size_8abf5 : GoodIn wsX3_insertInIndex (wsV RX3 42 RJx4a65c yJx4a65c_size_8abf5 wsJx4a65c_size_8abf5) := goodIn_app (goodIn_of _ (by decide +kernel)) ggX3_insertInIndex_Jx4a65c_size_8abf5
set_option maxRecDepth 20000 in
theorem ggX3_insertInIndex_Jx4a65c_get_915e3 : GoodIn wsX3_insertInIndex wsJx4a65c_get_915e3 := goodIn_r _ [12, 8, 13, 14, 15, 16, 17, 18, 19, 20, 21, 22, 23, 6, 24, 25, 91, 92, 93] (by decide +kernel) (by decide +kernel)
set_option maxRecDepth 20000 in
theorem gX3_insertInIndex_Jx4a65c_get_915e3 : GoodIn wsX3_insertInIndex (wsV RX3 96 RJx4a65c yJx4a65c_get_915e3 wsJx4a65c_get_915e3) := goodIn_app (goodIn_of _ (by decide +kernel)) ggX3_insertInIndex_Jx4a65c_get_915e3
set_option maxRecDepth 20000 in
theorem ggX3_insertInIndex_X3_isIndexedAhead : GoodIn wsX3_insertInIndex wsX3_isIndexedAhead := goodIn_r _ [29, 30, 31, 94, 95, 96, 97, 98, 99, 100, 101, 102] (by decide +kernel) (by decide +kernel)
set_option maxRecDepth 20000 in
theorem gX3_insertInIndex_X3_isIndexedAhead : GoodIn wsX3_insertInIndex (va_wsS RX3 228 yX3_isIndexedAhead wsX3_isIndexedAhead) := goodIn_app (goodIn_of _ (by decide +kernel)) ggX3_insertInIndex_X3_isIndexedAhead
set_option maxRecDepth 20000 in
theorem ggX3_insertInIndex_Jx4a65c_add_7a177 : GoodIn wsX3_insertInIndex wsJx4a65c_add_7a177 := goodIn_r _ [35, 36, 37, 8, 25, 38, 39, 40, 41, 42, 43, 44, 6, 45, 46, 47, 48, 49, 50, 51, 52, 53, 54, 55, 56, 57, 58, 59, 60, 61, 62, 63, 64, 65, 66, 67, 68, 69, 70, 71, 72, 73, 74, 75, 76, 77, 78, 79, 80, 81, 82, 83, 84, 85, 91, 92, 93] (by decide +kernel) (by decide +kernel)
set_option maxRecDepth 20000 in
theorem gX3_insertInIndex_Jx4a65c_add_7a177 : GoodIn wsX3_insertInIndex (wsV RX3 200 RJx4a65c yJx4a65c_add_7a177 wsJx4a65c_add_7a177) := goodIn_app (goodIn_of _ (by decide +kernel)) ggX3_insertInIndex_Jx4a65c_add_7a177
set_option maxRecDepth 20000 in
theorem ggX3_countHashesBelow_Jx4a65c_size_8abf5 : GoodIn wsX3_countHashesBelow wsJx4a65c_size_8abf5 := goodIn_r _ [8, 9, 41, 42, 43] (by decide +kernel) (by decide +kernel)
set_option maxRecDepth 20000 in
theorem gX3_countHashesBelow_Jx4a65c_size_8abf5 : GoodIn wsX3_countHashesBelow (wsV RX3 42 RJx4a65c yJx4a65c_size_8abf5 wsJx4a65c_size_8abf5) := goodIn_app (goodIn_of _ (by decide +kernel)) ggX3_countHashesBelow_Jx4a65c_size_8abf5
set_option maxRecDepth 20000 in
theorem ggX3_countHashesBelow_Jx4a65c_get_915e3 : GoodIn wsX3_countHashesBelow wsJx4a65c_get_915e3 := goodIn_r _ [13, 9, 14, 15, 16, 17, 18, 19, 20, 21, 22, 23, 24, 7, 25, 26, 41, 42, 43] (by decide +kernel) (by decide +kernel)
set_option maxRecDepth 20000 in
theorem gX3_countHashesBelow_Jx4a65c_get_915e3 : GoodIn wsX3_countHashesBelow (wsV RX3 96 RJx4a65c yJx4a65c_get_915e3 wsJx4a65c_get_915e3) := goodIn_app (goodIn_of _ (by decide +kernel)) ggX3_countHashesBelow_Jx4a65c_get_915e3
set_option maxRecDepth 20000 in
theorem ggX3_lookUp_X2_init : GoodIn wsX3_lookUp wsX2_init := goodIn_r _ [13, 14, 15, 16, 17, 18, 47, 48] (by decide +kernel) (by decide +kernel)
set_option maxRecDepth 20000 in
theorem gX3_lookUp_X2_init : GoodIn wsX3_lookUp (wsX2_init) := ggX3_lookUp_X2_init
set_option maxRecDepth 20000 in
theorem ggX3_lookUp_X3_countHashesBelow : GoodIn wsX3_lookUp wsX3_countHashesBelow := goodIn_r _ [23, 6, 7, 9, 24, 25, 26, 27, 28, 29, 30, 31, 32, 33, 34, 35, 36, 37, 38, 39, 40, 41, 42, 43, 44, 45, 46, 49, 50, 51, 52, 53, 54, 55, 56, 57, 58, 59, 60, 61, 62, 63, 64, 65] (by decide +kernel) (by decide +kernel)
set_option maxRecDepth 20000 in
theorem gX3_lookUp_X3_countHashesBelow : GoodIn wsX3_lookUp (wsV RX3 171 RX3 yX3_countHashesBelow wsX3_countHashesBelow) := goodIn_app (goodIn_of _ (by decide +kernel)) ggX3_lookUp_X3_countHashesBelow
set_option maxRecDepth 20000 in
theorem ggX3_lookUp_Jx4a65c_size_8abf5 : GoodIn wsX3_lookUp wsJx4a65c_size_8abf5 := goodIn_r _ [28, 29, 63, 64, 65] (by decide +kernel) (by decide +kernel)
set_option maxRecDepth 20000 in
theorem gX3_lookUp_Jx4a65c_size_8abf5 : GoodIn wsX3_lookUp (wsV RX3 42 RJx4a65c yJx4a65c_size_8abf5 wsJx4a65c_size_8abf5) := goodIn_app (goodIn_of _ (by decide +kernel)) ggX3_lookUp_Jx4a65c_size_8abf5
set_option maxRecDepth 20000 in
theorem ggX3_lookUp_Jx4a65c_get_915e3 : GoodIn wsX3_lookUp wsJx4a65c_get_915e3 := goodIn_r _ [33, 29, 34, 35, 36, 37, 38, 39, 40, 41, 42, 43, 44, 27, 45, 46, 63, 64, 65] (by decide +kernel) (by decide +kernel)
set_option maxRecDepth 20000 in
theorem gX3_lookUp_Jx4a65c_get_915e3 : GoodIn wsX3_lookUp (wsV RX3 96 RJx4a65c yJx4a65c_get_915e3 wsJx4a65c_get_915e3) := goodIn_app (goodIn_of _ (by decide +kernel)) ggX3_lookUp_Jx4a65c_get_915e3
set_option maxRecDepth 20000 in
theorem ggX3_hashOf_X3_countLetters : GoodIn wsX3_hashOf wsX3_countLetters := goodIn_r _ [4] (by decide +kernel) (by decide +kernel)
set_option maxRecDepth 20000 in
theorem gX3_hashOf_X3_countLetters : GoodIn wsX3_hashOf (va_wsS RX3 241 yX3_countLetters wsX3_countLetters) := goodIn_app (goodIn_of _ (by decide +kernel)) ggX3_hashOf_X3_countLetters
set_option maxRecDepth 20000 in
theorem ggX3_hashOf_X3_letterAt : GoodIn wsX3_hashOf wsX3_letterAt := goodIn_r _ [7] (by decide +kernel) (by decide +kernel)
set_option maxRecDepth 20000 in
theorem gX3_hashOf_X3_letterAt : GoodIn wsX3_hashOf (va_wsS RX3 244 yX3_letterAt wsX3_letterAt) := goodIn_app (goodIn_of _ (by decide +kernel)) ggX3_hashOf_X3_letterAt
set_option maxRecDepth 20000 in
theorem ggX3_costAgainst_X3_weighParts : GoodIn wsX3_costAgainst wsX3_weighParts := goodIn_r _ [4, 5, 6, 7, 3, 8, 9, 10, 11, 12, 13, 14, 15, 16, 17, 18, 19, 20, 21, 22, 23, 24, 25, 26, 27, 28, 29, 30, 31, 32, 33, 34, 35, 36] (by decide +kernel) (by decide +kernel)
set_option maxRecDepth 20000 in
theorem gX3_costAgainst_X3_weighParts : GoodIn wsX3_costAgainst (va_wsS RX3 221 yX3_weighParts wsX3_weighParts) := goodIn_app (goodIn_of _ (by decide +kernel)) ggX3_costAgainst_X3_weighParts
set_option maxRecDepth 20000 in
theorem ggX3_weighParts_X3_longestCopy : GoodIn wsX3_weighParts wsX3_longestCopy := goodIn_r _ [5, 1, 6, 7, 8, 9, 10, 11, 4, 12, 13, 14, 15, 16, 17, 18, 19, 20, 21, 22, 23, 24, 25, 26, 27, 28, 29, 30, 31, 32, 33] (by decide +kernel) (by decide +kernel)
set_option maxRecDepth 20000 in
theorem gX3_weighParts_X3_longestCopy : GoodIn wsX3_weighParts (va_wsS RX3 248 yX3_longestCopy wsX3_longestCopy) := goodIn_app (goodIn_of _ (by decide +kernel)) ggX3_weighParts_X3_longestCopy
set_option maxRecDepth 20000 in
theorem ggX3_longestCopy_X3_countAlike : GoodIn wsX3_longestCopy wsX3_countAlike := goodIn_r _ [9, 1, 10, 11, 4, 12, 13, 14, 15, 16, 17, 18, 19, 20, 8, 21, 22, 23, 24, 25, 26, 27, 28, 29, 30] (by decide +kernel) (by decide +kernel)
set_option maxRecDepth 20000 in
theorem gX3_longestCopy_X3_countAlike : GoodIn wsX3_longestCopy (va_wsS RX3 252 yX3_countAlike wsX3_countAlike) := goodIn_app (goodIn_of _ (by decide +kernel)) ggX3_longestCopy_X3_countAlike
set_option maxRecDepth 20000 in
theorem ggX3_countAlike_X1_letter : GoodIn wsX3_countAlike wsX1_letter := goodIn_r _ [10, 11, 12, 13, 14, 15, 16, 17, 18, 19, 20, 21, 22, 23, 24] (by decide +kernel) (by decide +kernel)
set_option maxRecDepth 20000 in
theorem gX3_countAlike_X1_letter : GoodIn wsX3_countAlike (wsV RX3 259 RX1 yX1_letter wsX1_letter) := goodIn_app (goodIn_of _ (by decide +kernel)) ggX3_countAlike_X1_letter
set_option maxRecDepth 20000 in
theorem ggX4_isObject_X4_isIn : GoodIn wsX4_isObject wsX4_isIn := goodIn_r _ [5] (by decide +kernel) (by decide +kernel)
set_option maxRecDepth 20000 in
theorem gX4_isObject_X4_isIn : GoodIn wsX4_isObject (va_wsS RX4 70 yX4_isIn wsX4_isIn) := goodIn_app (goodIn_of _ (by decide +kernel)) ggX4_isObject_X4_isIn
set_option maxRecDepth 20000 in
theorem ggX4_isContent_X4_size : GoodIn wsX4_isContent wsX4_size := goodIn_r _ [5, 1] (by decide +kernel) (by decide +kernel)
set_option maxRecDepth 20000 in
theorem gX4_isContent_X4_size : GoodIn wsX4_isContent (va_wsS RX4 76 yX4_size wsX4_size) := goodIn_app (goodIn_of _ (by decide +kernel)) ggX4_isContent_X4_size
set_option maxRecDepth 20000 in
theorem ggX4_hashOf_X4_size : GoodIn wsX4_hashOf wsX4_size := goodIn_r _ [5, 6] (by decide +kernel) (by decide +kernel)
set_option maxRecDepth 20000 in
theorem gX4_hashOf_X4_size : GoodIn wsX4_hashOf (va_wsS RX4 76 yX4_size wsX4_size) := goodIn_app (goodIn_of _ (by decide +kernel)) ggX4_hashOf_X4_size
set_option maxRecDepth 20000 in
theorem ggX4_lays_X4_size : GoodIn wsX4_lays wsX4_size := goodIn_r _ [5, 6] (by decide +kernel) (by decide +kernel)
set_option maxRecDepth 20000 in
theorem gX4_lays_X4_size : GoodIn wsX4_lays (va_wsS RX4 76 yX4_size wsX4_size) := goodIn_app (goodIn_of _ (by decide +kernel)) ggX4_lays_X4_size
set_option maxRecDepth 20000 in
theorem ggX4_longest_X4_common : GoodIn wsX4_longest wsX4_common := goodIn_r _ [5, 6, 7, 8, 9, 10, 11, 12, 13, 14, 15, 16, 17, 18, 19, 20, 21, 22, 23, 24, 25, 26, 27, 28, 29, 30, 31, 32] (by decide +kernel) (by decide +kernel)
set_option maxRecDepth 20000 in
theorem gX4_longest_X4_common : GoodIn wsX4_longest (wsV RX4 82 RX4 yX4_common wsX4_common) := goodIn_app (goodIn_of _ (by decide +kernel)) ggX4_longest_X4_common
set_option maxRecDepth 20000 in
theorem ggX4_deltas_X4_lays : GoodIn wsX4_deltas wsX4_lays := goodIn_r _ [8, 9, 10, 11, 7, 12, 13] (by decide +kernel) (by decide +kernel)
set_option maxRecDepth 20000 in
theorem gX4_deltas_X4_lays : GoodIn wsX4_deltas (va_wsS RX4 86 yX4_lays wsX4_lays) := goodIn_app (goodIn_of _ (by decide +kernel)) ggX4_deltas_X4_lays
set_option maxRecDepth 20000 in
theorem ggX4_deltas_X4_longest : GoodIn wsX4_deltas wsX4_longest := goodIn_r _ [17, 18, 19, 20, 7, 21, 1, 2, 22, 23, 24, 25, 26, 27, 28, 29, 30, 31, 32, 33, 34, 35, 36, 37, 38, 39, 40, 41, 42, 43, 44, 45, 46] (by decide +kernel) (by decide +kernel)
set_option maxRecDepth 20000 in
theorem gX4_deltas_X4_longest : GoodIn wsX4_deltas (wsV RX4 96 RX4 yX4_longest wsX4_longest) := goodIn_app (goodIn_of _ (by decide +kernel)) ggX4_deltas_X4_longest
set_option maxRecDepth 20000 in
theorem ggX4_store_X4_isIn : GoodIn wsX4_store wsX4_isIn := goodIn_r _ [10] (by decide +kernel) (by decide +kernel)
set_option maxRecDepth 20000 in
theorem gX4_store_X4_isIn : GoodIn wsX4_store (va_wsS RX4 70 yX4_isIn wsX4_isIn) := goodIn_app (goodIn_of _ (by decide +kernel)) ggX4_store_X4_isIn
set_option maxRecDepth 20000 in
theorem ggX4_store_X4_isContent : GoodIn wsX4_store wsX4_isContent := goodIn_r _ [13, 14, 15, 16, 9, 17] (by decide +kernel) (by decide +kernel)
set_option maxRecDepth 20000 in
theorem gX4_store_X4_isContent : GoodIn wsX4_store (va_wsS RX4 99 yX4_isContent wsX4_isContent) := goodIn_app (goodIn_of _ (by decide +kernel)) ggX4_store_X4_isContent
set_option maxRecDepth 20000 in
theorem ggX4_store_X4_goes : GoodIn wsX4_store wsX4_goes := goodIn_r _ [21, 22, 23, 24, 25, 26, 27, 28, 29, 30, 31, 32, 33, 34, 35, 36, 37, 38, 39, 40, 41, 42, 43, 44, 45, 46, 47] (by decide +kernel) (by decide +kernel)
set_option maxRecDepth 20000 in
theorem gX4_store_X4_goes : GoodIn wsX4_store (wsV RX4 103 RX4 yX4_goes wsX4_goes) := goodIn_app (goodIn_of _ (by decide +kernel)) ggX4_store_X4_goes
set_option maxRecDepth 20000 in
theorem ggX4_delete_X4_isObject : GoodIn wsX4_delete wsX4_isObject := goodIn_r _ [8, 3, 9, 10, 7, 11, 17, 18, 19, 20, 21, 22, 23, 24, 25, 26, 27, 28, 29, 30, 31, 32, 33, 34, 35, 36, 37, 38, 39, 40, 41] (by decide +kernel) (by decide +kernel)
set_option maxRecDepth 20000 in
theorem gX4_delete_X4_isObject : GoodIn wsX4_delete (wsV RX4 107 RX4 yX4_isObject wsX4_isObject) := goodIn_app (goodIn_of _ (by decide +kernel)) ggX4_delete_X4_isObject
set_option maxRecDepth 20000 in
theorem ggX4_delete_X4_goes : GoodIn wsX4_delete wsX4_goes := goodIn_r _ [15, 16, 17, 18, 19, 20, 21, 22, 23, 24, 25, 26, 27, 28, 29, 30, 31, 32, 33, 34, 35, 36, 37, 38, 39, 40, 41] (by decide +kernel) (by decide +kernel)
set_option maxRecDepth 20000 in
theorem gX4_delete_X4_goes : GoodIn wsX4_delete (wsV RX4 103 RX4 yX4_goes wsX4_goes) := goodIn_app (goodIn_of _ (by decide +kernel)) ggX4_delete_X4_goes
set_option maxRecDepth 20000 in
theorem ggX4_isLive_X4_isObject : GoodIn wsX4_isLive wsX4_isObject := goodIn_r _ [6, 7, 8, 9, 5, 10, 16, 17, 18, 19, 20, 21, 22, 23, 24, 25, 26, 27, 28, 29, 30, 31, 32, 33, 34, 35, 36, 37, 38, 39, 40] (by decide +kernel) (by decide +kernel)
set_option maxRecDepth 20000 in
theorem gX4_isLive_X4_isObject : GoodIn wsX4_isLive (wsV RX4 107 RX4 yX4_isObject wsX4_isObject) := goodIn_app (goodIn_of _ (by decide +kernel)) ggX4_isLive_X4_isObject
set_option maxRecDepth 20000 in
theorem ggX4_isLive_X4_goes : GoodIn wsX4_isLive wsX4_goes := goodIn_r _ [14, 15, 16, 17, 18, 19, 20, 21, 22, 23, 24, 25, 26, 27, 28, 29, 30, 31, 32, 33, 34, 35, 36, 37, 38, 39, 40] (by decide +kernel) (by decide +kernel)
set_option maxRecDepth 20000 in
theorem gX4_isLive_X4_goes : GoodIn wsX4_isLive (wsV RX4 103 RX4 yX4_goes wsX4_goes) := goodIn_app (goodIn_of _ (by decide +kernel)) ggX4_isLive_X4_goes
set_option maxRecDepth 20000 in
theorem ggX4_isLoose_X4_isObject : GoodIn wsX4_isLoose wsX4_isObject := goodIn_r _ [6, 7, 8, 9, 5, 10, 16, 17, 18, 19, 20, 21, 22, 23, 24, 25, 26, 27, 28, 29, 30, 31, 32, 33, 34, 35, 36, 37, 38, 39, 40] (by decide +kernel) (by decide +kernel)
set_option maxRecDepth 20000 in
theorem gX4_isLoose_X4_isObject : GoodIn wsX4_isLoose (wsV RX4 107 RX4 yX4_isObject wsX4_isObject) := goodIn_app (goodIn_of _ (by decide +kernel)) ggX4_isLoose_X4_isObject
set_option maxRecDepth 20000 in
theorem ggX4_isLoose_X4_goes : GoodIn wsX4_isLoose wsX4_goes := goodIn_r _ [14, 15, 16, 17, 18, 19, 20, 21, 22, 23, 24, 25, 26, 27, 28, 29, 30, 31, 32, 33, 34, 35, 36, 37, 38, 39, 40] (by decide +kernel) (by decide +kernel)
set_option maxRecDepth 20000 in
theorem gX4_isLoose_X4_goes : GoodIn wsX4_isLoose (wsV RX4 103 RX4 yX4_goes wsX4_goes) := goodIn_app (goodIn_of _ (by decide +kernel)) ggX4_isLoose_X4_goes
set_option maxRecDepth 20000 in
theorem ggX4_isReadable_X4_isPacked : GoodIn wsX4_isReadable wsX4_isPacked := goodIn_r _ [7, 8, 9, 10, 11, 12, 13, 14, 15, 16, 17, 18, 19, 20, 21, 22, 23, 24, 25, 26, 27, 28, 29, 30, 31, 32, 33, 34, 35] (by decide +kernel) (by decide +kernel)
set_option maxRecDepth 20000 in
theorem gX4_isReadable_X4_isPacked : GoodIn wsX4_isReadable (wsV RX4 110 RX4 yX4_isPacked wsX4_isPacked) := goodIn_app (goodIn_of _ (by decide +kernel)) ggX4_isReadable_X4_isPacked
set_option maxRecDepth 20000 in
theorem ggX4_canRead_X4_isObject : GoodIn wsX4_canRead wsX4_isObject := goodIn_r _ [5, 6, 7, 8, 4, 9, 28, 29, 30, 31, 32, 33, 34, 35, 36, 37, 38, 39, 40, 41, 42, 43, 44, 45, 46, 47, 48, 49, 50, 51, 52] (by decide +kernel) (by decide +kernel)
set_option maxRecDepth 20000 in
theorem gX4_canRead_X4_isObject : GoodIn wsX4_canRead (wsV RX4 107 RX4 yX4_isObject wsX4_isObject) := goodIn_app (goodIn_of _ (by decide +kernel)) ggX4_canRead_X4_isObject
set_option maxRecDepth 20000 in
theorem ggX4_canRead_X4_goes : GoodIn wsX4_canRead wsX4_goes := goodIn_r _ [13, 14, 28, 29, 30, 31, 32, 33, 34, 35, 36, 37, 38, 39, 40, 41, 42, 43, 44, 45, 46, 47, 48, 49, 50, 51, 52] (by decide +kernel) (by decide +kernel)
set_option maxRecDepth 20000 in
theorem gX4_canRead_X4_goes : GoodIn wsX4_canRead (wsV RX4 103 RX4 yX4_goes wsX4_goes) := goodIn_app (goodIn_of _ (by decide +kernel)) ggX4_canRead_X4_goes
set_option maxRecDepth 20000 in
theorem ggX4_canRead_X4_isReadable : GoodIn wsX4_canRead wsX4_isReadable := goodIn_r _ [18, 19, 20, 21, 22, 23, 4, 24, 25, 26, 27, 28, 29, 30, 31, 32, 33, 34, 35, 36, 37, 38, 39, 40, 41, 42, 43, 44, 45, 46, 47, 48, 49, 50, 51, 52] (by decide +kernel) (by decide +kernel)
set_option maxRecDepth 20000 in
theorem gX4_canRead_X4_isReadable : GoodIn wsX4_canRead (wsV RX4 113 RX4 yX4_isReadable wsX4_isReadable) := goodIn_app (goodIn_of _ (by decide +kernel)) ggX4_canRead_X4_isReadable
set_option maxRecDepth 20000 in
theorem ggX4_read_X4_isObject : GoodIn wsX4_read wsX4_isObject := goodIn_r _ [6, 7, 8, 9, 5, 10, 29, 30, 31, 32, 33, 34, 35, 36, 37, 38, 39, 40, 41, 42, 43, 44, 45, 46, 47, 48, 49, 50, 51, 52, 53] (by decide +kernel) (by decide +kernel)
set_option maxRecDepth 20000 in
theorem gX4_read_X4_isObject : GoodIn wsX4_read (wsV RX4 107 RX4 yX4_isObject wsX4_isObject) := goodIn_app (goodIn_of _ (by decide +kernel)) ggX4_read_X4_isObject
set_option maxRecDepth 20000 in
theorem ggX4_read_X4_isReadable : GoodIn wsX4_read wsX4_isReadable := goodIn_r _ [14, 15, 16, 17, 18, 19, 5, 20, 21, 22, 23, 29, 30, 31, 32, 33, 34, 35, 36, 37, 38, 39, 40, 41, 42, 43, 44, 45, 46, 47, 48, 49, 50, 51, 52, 53] (by decide +kernel) (by decide +kernel)
set_option maxRecDepth 20000 in
theorem gX4_read_X4_isReadable : GoodIn wsX4_read (wsV RX4 113 RX4 yX4_isReadable wsX4_isReadable) := goodIn_app (goodIn_of _ (by decide +kernel)) ggX4_read_X4_isReadable
set_option maxRecDepth 20000 in
theorem ggX4_read_X4_goes : GoodIn wsX4_read wsX4_goes := goodIn_r _ [27, 28, 29, 30, 31, 32, 33, 34, 35, 36, 37, 38, 39, 40, 41, 42, 43, 44, 45, 46, 47, 48, 49, 50, 51, 52, 53] (by decide +kernel) (by decide +kernel)
set_option maxRecDepth 20000 in
theorem gX4_read_X4_goes : GoodIn wsX4_read (wsV RX4 103 RX4 yX4_goes wsX4_goes) := goodIn_app (goodIn_of _ (by decide +kernel)) ggX4_read_X4_goes
set_option maxRecDepth 20000 in
theorem ggX4_isAhead_X4_size : GoodIn wsX4_isAhead wsX4_size := goodIn_r _ [6, 7] (by decide +kernel) (by decide +kernel)
set_option maxRecDepth 20000 in
theorem gX4_isAhead_X4_size : GoodIn wsX4_isAhead (va_wsS RX4 76 yX4_size wsX4_size) := goodIn_app (goodIn_of _ (by decide +kernel)) ggX4_isAhead_X4_size
set_option maxRecDepth 20000 in
theorem ggX4_orders_X4_isReadable : GoodIn wsX4_orders wsX4_isReadable := goodIn_r _ [9, 10, 11, 12, 13, 14, 8, 15, 16, 17, 18, 29, 30, 31, 32, 33, 34, 35, 36, 37, 38, 39, 40, 41, 42, 43, 44, 45, 46, 47, 48, 49, 50, 51, 52, 53] (by decide +kernel) (by decide +kernel)
set_option maxRecDepth 20000 in
theorem gX4_orders_X4_isReadable : GoodIn wsX4_orders (wsV RX4 113 RX4 yX4_isReadable wsX4_isReadable) := goodIn_app (goodIn_of _ (by decide +kernel)) ggX4_orders_X4_isReadable
set_option maxRecDepth 20000 in
theorem ggX4_orders_X4_isAhead : GoodIn wsX4_orders wsX4_isAhead := goodIn_r _ [22, 23, 24, 25, 26, 8, 27, 28, 29, 30, 31, 32, 33, 34, 35, 36, 37, 38, 39, 40, 41, 42, 43, 44, 45, 46, 47, 48, 49, 50, 51, 52, 53] (by decide +kernel) (by decide +kernel)
set_option maxRecDepth 20000 in
theorem gX4_orders_X4_isAhead : GoodIn wsX4_orders (wsV RX4 119 RX4 yX4_isAhead wsX4_isAhead) := goodIn_app (goodIn_of _ (by decide +kernel)) ggX4_orders_X4_isAhead
set_option maxRecDepth 20000 in
theorem ggX4_bestBase_X4_size : GoodIn wsX4_bestBase wsX4_size := goodIn_r _ [8, 9] (by decide +kernel) (by decide +kernel)
set_option maxRecDepth 20000 in
theorem gX4_bestBase_X4_size : GoodIn wsX4_bestBase (va_wsS RX4 76 yX4_size wsX4_size) := goodIn_app (goodIn_of _ (by decide +kernel)) ggX4_bestBase_X4_size
set_option maxRecDepth 20000 in
theorem ggX4_bestBase_X4_deltas : GoodIn wsX4_bestBase wsX4_deltas := goodIn_r _ [13, 14, 15, 16, 17, 18, 19, 7, 20, 21, 5, 6, 8, 9, 22, 23, 24, 25, 26, 27, 28, 29, 30, 31, 32, 33, 34, 35, 36, 37, 38, 39, 40, 41, 42, 43, 44, 45, 46, 47, 48, 49, 50, 51, 52, 53, 54] (by decide +kernel) (by decide +kernel)
set_option maxRecDepth 20000 in
theorem gX4_bestBase_X4_deltas : GoodIn wsX4_bestBase (wsV RX4 123 RX4 yX4_deltas wsX4_deltas) := goodIn_app (goodIn_of _ (by decide +kernel)) ggX4_bestBase_X4_deltas
set_option maxRecDepth 20000 in
theorem ggX4_forms_X4_size : GoodIn wsX4_forms wsX4_size := goodIn_r _ [15, 16] (by decide +kernel) (by decide +kernel)
set_option maxRecDepth 20000 in
theorem gX4_forms_X4_size : GoodIn wsX4_forms (va_wsS RX4 76 yX4_size wsX4_size) := goodIn_app (goodIn_of _ (by decide +kernel)) ggX4_forms_X4_size
set_option maxRecDepth 20000 in
theorem ggX4_forms_X4_deltas : GoodIn wsX4_forms wsX4_deltas := goodIn_r _ [20, 21, 22, 10, 11, 23, 24, 14, 25, 26, 12, 13, 15, 16, 27, 28, 29, 30, 31, 32, 33, 34, 35, 36, 37, 38, 39, 40, 41, 42, 43, 44, 45, 46, 47, 48, 49, 50, 51, 52, 53, 54, 55, 56, 57, 58, 59] (by decide +kernel) (by decide +kernel)
set_option maxRecDepth 20000 in
theorem gX4_forms_X4_deltas : GoodIn wsX4_forms (wsV RX4 123 RX4 yX4_deltas wsX4_deltas) := goodIn_app (goodIn_of _ (by decide +kernel)) ggX4_forms_X4_deltas
set_option maxRecDepth 20000 in
theorem ggX4_pack_X4_isIn : GoodIn wsX4_pack wsX4_isIn := goodIn_r _ [12] (by decide +kernel) (by decide +kernel)
set_option maxRecDepth 20000 in
theorem gX4_pack_X4_isIn : GoodIn wsX4_pack (va_wsS RX4 70 yX4_isIn wsX4_isIn) := goodIn_app (goodIn_of _ (by decide +kernel)) ggX4_pack_X4_isIn
set_option maxRecDepth 20000 in
theorem ggX4_pack_X4_goes : GoodIn wsX4_pack wsX4_goes := goodIn_r _ [16, 17, 84, 85, 86, 87, 88, 89, 90, 91, 92, 93, 94, 95, 96, 97, 98, 99, 100, 101, 102, 103, 104, 105, 106, 107, 108] (by decide +kernel) (by decide +kernel)
set_option maxRecDepth 20000 in
theorem gX4_pack_X4_goes : GoodIn wsX4_pack (wsV RX4 103 RX4 yX4_goes wsX4_goes) := goodIn_app (goodIn_of _ (by decide +kernel)) ggX4_pack_X4_goes
set_option maxRecDepth 20000 in
theorem ggX4_pack_X4_orders : GoodIn wsX4_pack wsX4_orders := goodIn_r _ [21, 3, 7, 22, 4, 23, 24, 25, 11, 26, 27, 28, 29, 30, 31, 32, 8, 33, 34, 35, 36, 37, 38, 39, 40, 41, 42, 43, 44, 84, 85, 86, 87, 88, 89, 90, 91, 92, 93, 94, 95, 96, 97, 98, 99, 100, 101, 102, 103, 104, 105, 106, 107, 108] (by decide +kernel) (by decide +kernel)
set_option maxRecDepth 20000 in
theorem gX4_pack_X4_orders : GoodIn wsX4_pack (wsV RX4 130 RX4 yX4_orders wsX4_orders) := goodIn_app (goodIn_of _ (by decide +kernel)) ggX4_pack_X4_orders
set_option maxRecDepth 20000 in
theorem ggX4_pack_X4_oldBase : GoodIn wsX4_pack wsX4_oldBase := goodIn_r _ [48, 4, 8, 33, 34, 22, 6, 84, 85, 86, 87, 88, 89, 90, 91, 92, 93, 94, 95, 96, 97, 98, 99, 100, 101, 102, 103, 104, 105, 106, 107, 108] (by decide +kernel) (by decide +kernel)
set_option maxRecDepth 20000 in
theorem gX4_pack_X4_oldBase : GoodIn wsX4_pack (wsV RX4 136 RX4 yX4_oldBase wsX4_oldBase) := goodIn_app (goodIn_of _ (by decide +kernel)) ggX4_pack_X4_oldBase
set_option maxRecDepth 20000 in
theorem ggX4_pack_X4_bestBase : GoodIn wsX4_pack wsX4_bestBase := goodIn_r _ [52, 39, 4, 6, 1, 41, 42, 11, 43, 44, 53, 54, 55, 56, 57, 58, 59, 60, 61, 62, 63, 64, 65, 66, 67, 68, 69, 70, 71, 72, 84, 85, 86, 87, 88, 89, 90, 91, 92, 93, 94, 95, 96, 97, 98, 99, 100, 101, 102, 103, 104, 105, 106, 107, 108] (by decide +kernel) (by decide +kernel)
set_option maxRecDepth 20000 in
theorem gX4_pack_X4_bestBase : GoodIn wsX4_pack (wsV RX4 139 RX4 yX4_bestBase wsX4_bestBase) := goodIn_app (goodIn_of _ (by decide +kernel)) ggX4_pack_X4_bestBase
set_option maxRecDepth 20000 in
theorem ggX4_pack_X4_forms : GoodIn wsX4_pack wsX4_forms := goodIn_r _ [76, 5, 8, 33, 34, 77, 6, 78, 39, 79, 59, 60, 41, 42, 11, 43, 44, 53, 54, 55, 56, 57, 58, 61, 62, 63, 64, 65, 66, 67, 68, 69, 70, 71, 72, 84, 85, 86, 87, 88, 89, 90, 91, 92, 93, 94, 95, 96, 97, 98, 99, 100, 101, 102, 103, 104, 105, 106, 107, 108] (by decide +kernel) (by decide +kernel)
set_option maxRecDepth 20000 in
theorem gX4_pack_X4_forms : GoodIn wsX4_pack (wsV RX4 143 RX4 yX4_forms wsX4_forms) := goodIn_app (goodIn_of _ (by decide +kernel)) ggX4_pack_X4_forms
set_option maxRecDepth 20000 in
theorem ggX4_pack_X4_allCosts : GoodIn wsX4_pack wsX4_allCosts := goodIn_r _ [83, 7, 8, 78, 84, 85, 86, 87, 88, 89, 90, 91, 92, 93, 94, 95, 96, 97, 98, 99, 100, 101, 102, 103, 104, 105, 106, 107, 108] (by decide +kernel) (by decide +kernel)
set_option maxRecDepth 20000 in
theorem gX4_pack_X4_allCosts : GoodIn wsX4_pack (wsV RX4 147 RX4 yX4_allCosts wsX4_allCosts) := goodIn_app (goodIn_of _ (by decide +kernel)) ggX4_pack_X4_allCosts
set_option maxRecDepth 20000 in
theorem ggX4_prune_X4_isPacked : GoodIn wsX4_prune wsX4_isPacked := goodIn_r _ [8, 9, 10, 11, 12, 13, 14, 15, 16, 17, 18, 19, 20, 21, 22, 23, 24, 25, 26, 27, 28, 29, 30, 31, 32, 33, 34, 35, 36] (by decide +kernel) (by decide +kernel)
set_option maxRecDepth 20000 in
theorem gX4_prune_X4_isPacked : GoodIn wsX4_prune (wsV RX4 110 RX4 yX4_isPacked wsX4_isPacked) := goodIn_app (goodIn_of _ (by decide +kernel)) ggX4_prune_X4_isPacked
set_option maxRecDepth 20000 in
theorem ggX4_allPacked_X4_isPacked : GoodIn wsX4_allPacked wsX4_isPacked := goodIn_r _ [6, 7, 8, 9, 10, 11, 12, 13, 14, 15, 16, 17, 18, 19, 20, 21, 22, 23, 24, 25, 26, 27, 28, 29, 30, 31, 32, 33, 34] (by decide +kernel) (by decide +kernel)
set_option maxRecDepth 20000 in
theorem gX4_allPacked_X4_isPacked : GoodIn wsX4_allPacked (wsV RX4 110 RX4 yX4_isPacked wsX4_isPacked) := goodIn_app (goodIn_of _ (by decide +kernel)) ggX4_allPacked_X4_isPacked
set_option maxRecDepth 20000 in
theorem ggX4_damage_X4_isObject : GoodIn wsX4_damage wsX4_isObject := goodIn_r _ [7, 8, 9, 10, 6, 11, 26, 27, 28, 29, 30, 31, 32, 33, 34, 35, 36, 37, 38, 39, 40, 41, 42, 43, 44, 45, 46, 47, 48, 49, 50] (by decide +kernel) (by decide +kernel)
set_option maxRecDepth 20000 in
theorem gX4_damage_X4_isObject : GoodIn wsX4_damage (wsV RX4 107 RX4 yX4_isObject wsX4_isObject) := goodIn_app (goodIn_of _ (by decide +kernel)) ggX4_damage_X4_isObject
set_option maxRecDepth 20000 in
theorem ggX4_damage_X4_goes : GoodIn wsX4_damage wsX4_goes := goodIn_r _ [15, 16, 26, 27, 28, 29, 30, 31, 32, 33, 34, 35, 36, 37, 38, 39, 40, 41, 42, 43, 44, 45, 46, 47, 48, 49, 50] (by decide +kernel) (by decide +kernel)
set_option maxRecDepth 20000 in
theorem gX4_damage_X4_goes : GoodIn wsX4_damage (wsV RX4 103 RX4 yX4_goes wsX4_goes) := goodIn_app (goodIn_of _ (by decide +kernel)) ggX4_damage_X4_goes
set_option maxRecDepth 20000 in
theorem ggX4_damage_X4_allPacked : GoodIn wsX4_damage wsX4_allPacked := goodIn_r _ [20, 8, 21, 22, 23, 6, 24, 1, 2, 25, 26, 27, 28, 29, 30, 31, 32, 33, 34, 35, 36, 37, 38, 39, 40, 41, 42, 43, 44, 45, 46, 47, 48, 49, 50] (by decide +kernel) (by decide +kernel)
set_option maxRecDepth 20000 in
theorem gX4_damage_X4_allPacked : GoodIn wsX4_damage (wsV RX4 151 RX4 yX4_allPacked wsX4_allPacked) := goodIn_app (goodIn_of _ (by decide +kernel)) ggX4_damage_X4_allPacked
set_option maxRecDepth 20000 in
theorem ggX4_cost_X4_allCosts : GoodIn wsX4_cost wsX4_allCosts := goodIn_r _ [6, 7, 8, 9, 10, 11, 12, 13, 14, 15, 16, 17, 18, 19, 20, 21, 22, 23, 24, 25, 26, 27, 28, 29, 30, 31, 32, 33, 34] (by decide +kernel) (by decide +kernel)
set_option maxRecDepth 20000 in
theorem gX4_cost_X4_allCosts : GoodIn wsX4_cost (wsV RX4 147 RX4 yX4_allCosts wsX4_allCosts) := goodIn_app (goodIn_of _ (by decide +kernel)) ggX4_cost_X4_allCosts
set_option maxRecDepth 20000 in
theorem ggX4_asksForm_X4_isObject : GoodIn wsX4_asksForm wsX4_isObject := goodIn_r _ [6, 7, 8, 9, 5, 10, 16, 17, 18, 19, 20, 21, 22, 23, 24, 25, 26, 27, 28, 29, 30, 31, 32, 33, 34, 35, 36, 37, 38, 39, 40] (by decide +kernel) (by decide +kernel)
set_option maxRecDepth 20000 in
theorem gX4_asksForm_X4_isObject : GoodIn wsX4_asksForm (wsV RX4 107 RX4 yX4_isObject wsX4_isObject) := goodIn_app (goodIn_of _ (by decide +kernel)) ggX4_asksForm_X4_isObject
set_option maxRecDepth 20000 in
theorem ggX4_asksForm_X4_goes : GoodIn wsX4_asksForm wsX4_goes := goodIn_r _ [14, 15, 16, 17, 18, 19, 20, 21, 22, 23, 24, 25, 26, 27, 28, 29, 30, 31, 32, 33, 34, 35, 36, 37, 38, 39, 40] (by decide +kernel) (by decide +kernel)
set_option maxRecDepth 20000 in
theorem gX4_asksForm_X4_goes : GoodIn wsX4_asksForm (wsV RX4 103 RX4 yX4_goes wsX4_goes) := goodIn_app (goodIn_of _ (by decide +kernel)) ggX4_asksForm_X4_goes
set_option maxRecDepth 20000 in
theorem ggX4_costOf_X4_asksForm : GoodIn wsX4_costOf wsX4_asksForm := goodIn_r _ [6, 7, 8, 9, 10, 5, 11, 12, 13, 14, 15, 16, 17, 18, 19, 20, 21, 22, 23, 24, 25, 26, 27, 28, 29, 30, 31, 32, 33, 34, 35, 36, 37, 38, 39, 40, 41, 42, 43, 44, 45] (by decide +kernel) (by decide +kernel)
set_option maxRecDepth 20000 in
theorem gX4_costOf_X4_asksForm : GoodIn wsX4_costOf (wsV RX4 154 RX4 yX4_asksForm wsX4_asksForm) := goodIn_app (goodIn_of _ (by decide +kernel)) ggX4_costOf_X4_asksForm
set_option maxRecDepth 20000 in
theorem ggX4_base_X4_asksForm : GoodIn wsX4_base wsX4_asksForm := goodIn_r _ [6, 7, 8, 9, 10, 5, 11, 12, 13, 14, 15, 16, 17, 18, 19, 20, 21, 22, 23, 24, 25, 26, 27, 28, 29, 30, 31, 32, 33, 34, 35, 36, 37, 38, 39, 40, 41, 42, 43, 44, 45] (by decide +kernel) (by decide +kernel)
set_option maxRecDepth 20000 in
theorem gX4_base_X4_asksForm : GoodIn wsX4_base (wsV RX4 154 RX4 yX4_asksForm wsX4_asksForm) := goodIn_app (goodIn_of _ (by decide +kernel)) ggX4_base_X4_asksForm
set_option maxRecDepth 20000 in
theorem ggX4_depth_X4_asksForm : GoodIn wsX4_depth wsX4_asksForm := goodIn_r _ [6, 7, 8, 9, 10, 5, 11, 12, 13, 14, 15, 16, 17, 18, 19, 20, 21, 22, 23, 24, 25, 26, 27, 28, 29, 30, 31, 32, 33, 34, 35, 36, 37, 38, 39, 40, 41, 42, 43, 44, 45] (by decide +kernel) (by decide +kernel)
set_option maxRecDepth 20000 in
theorem gX4_depth_X4_asksForm : GoodIn wsX4_depth (wsV RX4 154 RX4 yX4_asksForm wsX4_asksForm) := goodIn_app (goodIn_of _ (by decide +kernel)) ggX4_depth_X4_asksForm
set_option maxRecDepth 20000 in
theorem ggX4_parts_X4_asksForm : GoodIn wsX4_parts wsX4_asksForm := goodIn_r _ [6, 7, 8, 9, 10, 5, 11, 12, 13, 14, 15, 16, 17, 18, 19, 20, 21, 22, 23, 24, 25, 26, 27, 28, 29, 30, 31, 32, 33, 34, 35, 36, 37, 38, 39, 40, 41, 42, 43, 44, 45] (by decide +kernel) (by decide +kernel)
set_option maxRecDepth 20000 in
theorem gX4_parts_X4_asksForm : GoodIn wsX4_parts (wsV RX4 154 RX4 yX4_asksForm wsX4_asksForm) := goodIn_app (goodIn_of _ (by decide +kernel)) ggX4_parts_X4_asksForm
set_option maxRecDepth 20000 in
theorem ggX4_dependents_X4_asksForm : GoodIn wsX4_dependents wsX4_asksForm := goodIn_r _ [8, 2, 9, 10, 11, 7, 12, 1, 13, 14, 15, 16, 17, 18, 19, 20, 21, 22, 23, 24, 25, 26, 27, 28, 29, 30, 31, 32, 33, 34, 35, 36, 37, 38, 39, 40, 41, 42, 43, 44, 45] (by decide +kernel) (by decide +kernel)
set_option maxRecDepth 20000 in
theorem gX4_dependents_X4_asksForm : GoodIn wsX4_dependents (wsV RX4 154 RX4 yX4_asksForm wsX4_asksForm) := goodIn_app (goodIn_of _ (by decide +kernel)) ggX4_dependents_X4_asksForm
set_option maxRecDepth 20000 in
theorem ggX4_deltaCost_X4_isObject : GoodIn wsX4_deltaCost wsX4_isObject := goodIn_r _ [6, 7, 8, 9, 5, 10, 40, 41, 42, 43, 44, 45, 46, 47, 48, 49, 50, 51, 52, 53, 54, 55, 56, 57, 58, 59, 60, 61, 62, 63, 64] (by decide +kernel) (by decide +kernel)
set_option maxRecDepth 20000 in
theorem gX4_deltaCost_X4_isObject : GoodIn wsX4_deltaCost (wsV RX4 107 RX4 yX4_isObject wsX4_isObject) := goodIn_app (goodIn_of _ (by decide +kernel)) ggX4_deltaCost_X4_isObject
set_option maxRecDepth 20000 in
theorem ggX4_deltaCost_X4_goes : GoodIn wsX4_deltaCost wsX4_goes := goodIn_r _ [14, 15, 40, 41, 42, 43, 44, 45, 46, 47, 48, 49, 50, 51, 52, 53, 54, 55, 56, 57, 58, 59, 60, 61, 62, 63, 64] (by decide +kernel) (by decide +kernel)
set_option maxRecDepth 20000 in
theorem gX4_deltaCost_X4_goes : GoodIn wsX4_deltaCost (wsV RX4 103 RX4 yX4_goes wsX4_goes) := goodIn_app (goodIn_of _ (by decide +kernel)) ggX4_deltaCost_X4_goes
set_option maxRecDepth 20000 in
theorem ggX4_deltaCost_X4_deltas : GoodIn wsX4_deltaCost wsX4_deltas := goodIn_r _ [19, 20, 21, 22, 23, 24, 25, 5, 26, 27, 28, 29, 30, 31, 32, 33, 34, 35, 36, 37, 38, 39, 40, 41, 42, 43, 44, 45, 46, 47, 48, 49, 50, 51, 52, 53, 54, 55, 56, 57, 58, 59, 60, 61, 62, 63, 64] (by decide +kernel) (by decide +kernel)
set_option maxRecDepth 20000 in
theorem gX4_deltaCost_X4_deltas : GoodIn wsX4_deltaCost (wsV RX4 123 RX4 yX4_deltas wsX4_deltas) := goodIn_app (goodIn_of _ (by decide +kernel)) ggX4_deltaCost_X4_deltas
set_option maxRecDepth 20000 in
theorem ggX4_hash_X4_isContent : GoodIn wsX4_hash wsX4_isContent := goodIn_r _ [4, 5, 6, 7, 3, 8] (by decide +kernel) (by decide +kernel)
set_option maxRecDepth 20000 in
theorem gX4_hash_X4_isContent : GoodIn wsX4_hash (va_wsS RX4 99 yX4_isContent wsX4_isContent) := goodIn_app (goodIn_of _ (by decide +kernel)) ggX4_hash_X4_isContent
set_option maxRecDepth 20000 in
theorem ggX4_hash_X4_goes : GoodIn wsX4_hash wsX4_goes := goodIn_r _ [12, 13, 18, 19, 20, 21, 22, 23, 24, 25, 26, 27, 28, 29, 30, 31, 32, 33, 34, 35, 36, 37, 38, 39, 40, 41, 42] (by decide +kernel) (by decide +kernel)
set_option maxRecDepth 20000 in
theorem gX4_hash_X4_goes : GoodIn wsX4_hash (wsV RX4 103 RX4 yX4_goes wsX4_goes) := goodIn_app (goodIn_of _ (by decide +kernel)) ggX4_hash_X4_goes
set_option maxRecDepth 20000 in
theorem ggX4_hash_X4_hashOf : GoodIn wsX4_hash wsX4_hashOf := goodIn_r _ [16, 17, 6, 7, 3, 8, 5] (by decide +kernel) (by decide +kernel)
set_option maxRecDepth 20000 in
theorem gX4_hash_X4_hashOf : GoodIn wsX4_hash (va_wsS RX4 157 yX4_hashOf wsX4_hashOf) := goodIn_app (goodIn_of _ (by decide +kernel)) ggX4_hash_X4_hashOf
set_option maxRecDepth 20000 in
theorem ggX4_laysIndex_X4_hashOf : GoodIn wsX4_laysIndex wsX4_hashOf := goodIn_r _ [8, 9, 10, 11, 7, 12, 13] (by decide +kernel) (by decide +kernel)
set_option maxRecDepth 20000 in
theorem gX4_laysIndex_X4_hashOf : GoodIn wsX4_laysIndex (va_wsS RX4 157 yX4_hashOf wsX4_hashOf) := goodIn_app (goodIn_of _ (by decide +kernel)) ggX4_laysIndex_X4_hashOf
set_option maxRecDepth 20000 in
theorem ggX4_indexAt_X4_laysIndex : GoodIn wsX4_indexAt wsX4_laysIndex := goodIn_r _ [6, 7, 8, 9, 1, 10, 11, 5, 12, 13, 14, 15, 16, 17, 26, 27, 28, 29, 30, 31, 32, 33, 34, 35, 36, 37, 38, 39, 40, 41, 42, 43, 44, 45, 46, 47, 48, 49, 50] (by decide +kernel) (by decide +kernel)
set_option maxRecDepth 20000 in
theorem gX4_indexAt_X4_laysIndex : GoodIn wsX4_indexAt (wsV RX4 160 RX4 yX4_laysIndex wsX4_laysIndex) := goodIn_app (goodIn_of _ (by decide +kernel)) ggX4_indexAt_X4_laysIndex
set_option maxRecDepth 20000 in
theorem ggX4_indexAt_X4_isIn : GoodIn wsX4_indexAt wsX4_isIn := goodIn_r _ [20] (by decide +kernel) (by decide +kernel)
set_option maxRecDepth 20000 in
theorem gX4_indexAt_X4_isIn : GoodIn wsX4_indexAt (va_wsS RX4 70 yX4_isIn wsX4_isIn) := goodIn_app (goodIn_of _ (by decide +kernel)) ggX4_indexAt_X4_isIn
set_option maxRecDepth 20000 in
theorem ggX4_indexAt_X4_goes : GoodIn wsX4_indexAt wsX4_goes := goodIn_r _ [24, 25, 26, 27, 28, 29, 30, 31, 32, 33, 34, 35, 36, 37, 38, 39, 40, 41, 42, 43, 44, 45, 46, 47, 48, 49, 50] (by decide +kernel) (by decide +kernel)
set_option maxRecDepth 20000 in
theorem gX4_indexAt_X4_goes : GoodIn wsX4_indexAt (wsV RX4 103 RX4 yX4_goes wsX4_goes) := goodIn_app (goodIn_of _ (by decide +kernel)) ggX4_indexAt_X4_goes
set_option maxRecDepth 20000 in
theorem ggX4_below_X4_hashOf : GoodIn wsX4_below wsX4_hashOf := goodIn_r _ [7, 8, 9, 10, 6, 11, 12] (by decide +kernel) (by decide +kernel)
set_option maxRecDepth 20000 in
theorem gX4_below_X4_hashOf : GoodIn wsX4_below (va_wsS RX4 157 yX4_hashOf wsX4_hashOf) := goodIn_app (goodIn_of _ (by decide +kernel)) ggX4_below_X4_hashOf
set_option maxRecDepth 20000 in
theorem ggX4_fanOut_X4_isIn : GoodIn wsX4_fanOut wsX4_isIn := goodIn_r _ [4] (by decide +kernel) (by decide +kernel)
set_option maxRecDepth 20000 in
theorem gX4_fanOut_X4_isIn : GoodIn wsX4_fanOut (va_wsS RX4 70 yX4_isIn wsX4_isIn) := goodIn_app (goodIn_of _ (by decide +kernel)) ggX4_fanOut_X4_isIn
set_option maxRecDepth 20000 in
theorem ggX4_fanOut_X4_goes : GoodIn wsX4_fanOut wsX4_goes := goodIn_r _ [8, 9, 25, 26, 27, 28, 29, 30, 31, 32, 33, 34, 35, 36, 37, 38, 39, 40, 41, 42, 43, 44, 45, 46, 47, 48, 49] (by decide +kernel) (by decide +kernel)
set_option maxRecDepth 20000 in
theorem gX4_fanOut_X4_goes : GoodIn wsX4_fanOut (wsV RX4 103 RX4 yX4_goes wsX4_goes) := goodIn_app (goodIn_of _ (by decide +kernel)) ggX4_fanOut_X4_goes
set_option maxRecDepth 20000 in
theorem ggX4_fanOut_X4_below : GoodIn wsX4_fanOut wsX4_below := goodIn_r _ [13, 14, 15, 16, 17, 18, 3, 19, 20, 21, 22, 23, 24, 25, 26, 27, 28, 29, 30, 31, 32, 33, 34, 35, 36, 37, 38, 39, 40, 41, 42, 43, 44, 45, 46, 47, 48, 49] (by decide +kernel) (by decide +kernel)
set_option maxRecDepth 20000 in
theorem gX4_fanOut_X4_below : GoodIn wsX4_fanOut (wsV RX4 163 RX4 yX4_below wsX4_below) := goodIn_app (goodIn_of _ (by decide +kernel)) ggX4_fanOut_X4_below
set_option maxRecDepth 20000 in
theorem ggX4_looksUp_X4_laysIndex : GoodIn wsX4_looksUp wsX4_laysIndex := goodIn_r _ [8, 9, 10, 2, 3, 11, 12, 7, 13, 14, 15, 16, 17, 18, 23, 24, 25, 26, 27, 28, 29, 30, 31, 32, 33, 34, 35, 36, 37, 38, 39, 40, 41, 42, 43, 44, 45, 46, 47] (by decide +kernel) (by decide +kernel)
set_option maxRecDepth 20000 in
theorem gX4_looksUp_X4_laysIndex : GoodIn wsX4_looksUp (wsV RX4 160 RX4 yX4_laysIndex wsX4_laysIndex) := goodIn_app (goodIn_of _ (by decide +kernel)) ggX4_looksUp_X4_laysIndex
set_option maxRecDepth 20000 in
theorem ggX4_looksUp_X4_below : GoodIn wsX4_looksUp wsX4_below := goodIn_r _ [22, 9, 10, 2, 11, 12, 7, 13, 14, 15, 16, 17, 18, 23, 24, 25, 26, 27, 28, 29, 30, 31, 32, 33, 34, 35, 36, 37, 38, 39, 40, 41, 42, 43, 44, 45, 46, 47] (by decide +kernel) (by decide +kernel)
set_option maxRecDepth 20000 in
theorem gX4_looksUp_X4_below : GoodIn wsX4_looksUp (wsV RX4 163 RX4 yX4_below wsX4_below) := goodIn_app (goodIn_of _ (by decide +kernel)) ggX4_looksUp_X4_below
set_option maxRecDepth 20000 in
theorem ggX4_looksUp_X4_hashOf : GoodIn wsX4_looksUp wsX4_hashOf := goodIn_r _ [13, 14, 15, 16, 7, 17, 18] (by decide +kernel) (by decide +kernel)
set_option maxRecDepth 20000 in
theorem gX4_looksUp_X4_hashOf : GoodIn wsX4_looksUp (va_wsS RX4 157 yX4_hashOf wsX4_hashOf) := goodIn_app (goodIn_of _ (by decide +kernel)) ggX4_looksUp_X4_hashOf
set_option maxRecDepth 20000 in
theorem ggX4_asksHash_X4_isIn : GoodIn wsX4_asksHash wsX4_isIn := goodIn_r _ [4] (by decide +kernel) (by decide +kernel)
set_option maxRecDepth 20000 in
theorem gX4_asksHash_X4_isIn : GoodIn wsX4_asksHash (va_wsS RX4 70 yX4_isIn wsX4_isIn) := goodIn_app (goodIn_of _ (by decide +kernel)) ggX4_asksHash_X4_isIn
set_option maxRecDepth 20000 in
theorem ggX4_asksHash_X4_goes : GoodIn wsX4_asksHash wsX4_goes := goodIn_r _ [8, 9, 10, 11, 12, 13, 14, 15, 16, 17, 18, 19, 20, 21, 22, 23, 24, 25, 26, 27, 28, 29, 30, 31, 32, 33, 34] (by decide +kernel) (by decide +kernel)
set_option maxRecDepth 20000 in
theorem gX4_asksHash_X4_goes : GoodIn wsX4_asksHash (wsV RX4 103 RX4 yX4_goes wsX4_goes) := goodIn_app (goodIn_of _ (by decide +kernel)) ggX4_asksHash_X4_goes
set_option maxRecDepth 20000 in
theorem ggX4_find_X4_asksHash : GoodIn wsX4_find wsX4_asksHash := goodIn_r _ [5, 6, 7, 4, 8, 9, 10, 11, 12, 13, 39, 40, 41, 42, 43, 44, 45, 46, 47, 48, 49, 50, 51, 52, 53, 54, 55, 56, 57, 58, 59, 60, 61, 62, 63] (by decide +kernel) (by decide +kernel)
set_option maxRecDepth 20000 in
theorem gX4_find_X4_asksHash : GoodIn wsX4_find (wsV RX4 170 RX4 yX4_asksHash wsX4_asksHash) := goodIn_app (goodIn_of _ (by decide +kernel)) ggX4_find_X4_asksHash
set_option maxRecDepth 20000 in
theorem ggX4_find_X4_looksUp : GoodIn wsX4_find wsX4_looksUp := goodIn_r _ [17, 18, 19, 20, 21, 22, 23, 4, 24, 25, 26, 27, 28, 29, 30, 31, 32, 33, 34, 35, 36, 37, 38, 39, 40, 41, 42, 43, 44, 45, 46, 47, 48, 49, 50, 51, 52, 53, 54, 55, 56, 57, 58, 59, 60, 61, 62, 63] (by decide +kernel) (by decide +kernel)
set_option maxRecDepth 20000 in
theorem gX4_find_X4_looksUp : GoodIn wsX4_find (wsV RX4 173 RX4 yX4_looksUp wsX4_looksUp) := goodIn_app (goodIn_of _ (by decide +kernel)) ggX4_find_X4_looksUp
set_option maxRecDepth 20000 in
theorem ggX4_looks_X4_asksHash : GoodIn wsX4_looks wsX4_asksHash := goodIn_r _ [6, 7, 8, 5, 9, 10, 11, 12, 13, 14, 39, 40, 41, 42, 43, 44, 45, 46, 47, 48, 49, 50, 51, 52, 53, 54, 55, 56, 57, 58, 59, 60, 61, 62, 63] (by decide +kernel) (by decide +kernel)
set_option maxRecDepth 20000 in
theorem gX4_looks_X4_asksHash : GoodIn wsX4_looks (wsV RX4 170 RX4 yX4_asksHash wsX4_asksHash) := goodIn_app (goodIn_of _ (by decide +kernel)) ggX4_looks_X4_asksHash
set_option maxRecDepth 20000 in
theorem ggX4_looks_X4_looksUp : GoodIn wsX4_looks wsX4_looksUp := goodIn_r _ [18, 1, 19, 20, 21, 22, 23, 5, 24, 25, 26, 27, 28, 29, 30, 31, 32, 33, 34, 35, 36, 37, 38, 39, 40, 41, 42, 43, 44, 45, 46, 47, 48, 49, 50, 51, 52, 53, 54, 55, 56, 57, 58, 59, 60, 61, 62, 63] (by decide +kernel) (by decide +kernel)
set_option maxRecDepth 20000 in
theorem gX4_looks_X4_looksUp : GoodIn wsX4_looks (wsV RX4 173 RX4 yX4_looksUp wsX4_looksUp) := goodIn_app (goodIn_of _ (by decide +kernel)) ggX4_looks_X4_looksUp
set_option maxRecDepth 20000 in
theorem ggJxc12de_init_da8c8_Jxa1e45_init_da8c8 : GoodIn wsJxc12de_init_da8c8 wsJxa1e45_init_da8c8 := goodIn_r _ [5, 6, 7, 8] (by decide +kernel) (by decide +kernel)
set_option maxRecDepth 20000 in
theorem gJxc12de_init_da8c8_Jxa1e45_init_da8c8 : GoodIn wsJxc12de_init_da8c8 (wsJxa1e45_init_da8c8) := ggJxc12de_init_da8c8_Jxa1e45_init_da8c8
set_option maxRecDepth 20000 in
theorem ggJx4a65c_init_da8c8_Jxc12de_init_da8c8 : GoodIn wsJx4a65c_init_da8c8 wsJxc12de_init_da8c8 := goodIn_r _ [6, 7, 8, 9, 10, 11, 12, 13, 14, 15, 16, 17] (by decide +kernel) (by decide +kernel)
set_option maxRecDepth 20000 in
theorem gJx4a65c_init_da8c8_Jxc12de_init_da8c8 : GoodIn wsJx4a65c_init_da8c8 (wsJxc12de_init_da8c8) := ggJx4a65c_init_da8c8_Jxc12de_init_da8c8
set_option maxRecDepth 20000 in
theorem ggJx4a65c_grow_92f84_J8_newLength_cabcc : GoodIn wsJx4a65c_grow_92f84 wsJ8_newLength_cabcc := goodIn_r _ [11, 12, 4, 5, 6, 13, 14, 15, 10, 16] (by decide +kernel) (by decide +kernel)
set_option maxRecDepth 20000 in
theorem gJx4a65c_grow_92f84_J8_newLength_cabcc : GoodIn wsJx4a65c_grow_92f84 (va_wsS RJx4a65c 73 yJ8_newLength_cabcc wsJ8_newLength_cabcc) := goodIn_app (goodIn_of _ (by decide +kernel)) ggJx4a65c_grow_92f84_J8_newLength_cabcc
set_option maxRecDepth 20000 in
theorem ggJx4a65c_grow_92f84_J7_copyOf_1904c : GoodIn wsJx4a65c_grow_92f84 wsJ7_copyOf_1904c := goodIn_r _ [20, 21, 22, 23, 24, 25, 26, 19, 27, 28, 29, 30, 31, 5, 32, 33, 34, 35, 36] (by decide +kernel) (by decide +kernel)
set_option maxRecDepth 20000 in
theorem gJx4a65c_grow_92f84_J7_copyOf_1904c : GoodIn wsJx4a65c_grow_92f84 (va_wsS RJx4a65c 66 yJ7_copyOf_1904c wsJ7_copyOf_1904c) := goodIn_app (goodIn_of _ (by decide +kernel)) ggJx4a65c_grow_92f84_J7_copyOf_1904c
set_option maxRecDepth 20000 in
theorem ggJx4a65c_grow_d5877_Jx4a65c_grow_92f84 : GoodIn wsJx4a65c_grow_d5877 wsJx4a65c_grow_92f84 := goodIn_r _ [6, 7, 8, 9, 10, 11, 12, 13, 14, 15, 16, 17, 18, 19, 20, 21, 22, 23, 24, 25, 26, 27, 28, 29, 30, 31, 32, 33, 34, 35, 36, 37, 38, 39, 40, 41, 42, 43, 44, 45] (by decide +kernel) (by decide +kernel)
set_option maxRecDepth 20000 in
theorem gJx4a65c_grow_d5877_Jx4a65c_grow_92f84 : GoodIn wsJx4a65c_grow_d5877 (wsV RJx4a65c 69 RJx4a65c yJx4a65c_grow_92f84 wsJx4a65c_grow_92f84) := goodIn_app (goodIn_of _ (by decide +kernel)) ggJx4a65c_grow_d5877_Jx4a65c_grow_92f84
set_option maxRecDepth 20000 in
theorem ggJx4a65c_get_915e3_J15_checkIndex_7cf53 : GoodIn wsJx4a65c_get_915e3 wsJ15_checkIndex_7cf53 := goodIn_r _ [5, 6, 7, 8, 9] (by decide +kernel) (by decide +kernel)
set_option maxRecDepth 20000 in
theorem gJx4a65c_get_915e3_J15_checkIndex_7cf53 : GoodIn wsJx4a65c_get_915e3 (va_wsS RJx4a65c 118 yJ15_checkIndex_7cf53 wsJ15_checkIndex_7cf53) := goodIn_app (goodIn_of _ (by decide +kernel)) ggJx4a65c_get_915e3_J15_checkIndex_7cf53
set_option maxRecDepth 20000 in
theorem ggJx4a65c_get_915e3_Jx4a65c_elementData_915e3 : GoodIn wsJx4a65c_get_915e3 wsJx4a65c_elementData_915e3 := goodIn_r _ [14, 15, 16, 17, 18] (by decide +kernel) (by decide +kernel)
set_option maxRecDepth 20000 in
theorem gJx4a65c_get_915e3_Jx4a65c_elementData_915e3 : GoodIn wsJx4a65c_get_915e3 (wsV RJx4a65c 123 RJx4a65c yJx4a65c_elementData_915e3 wsJx4a65c_elementData_915e3) := goodIn_app (goodIn_of _ (by decide +kernel)) ggJx4a65c_get_915e3_Jx4a65c_elementData_915e3
set_option maxRecDepth 20000 in
theorem ggJx4a65c_add_72be8_Jx4a65c_grow_d5877 : GoodIn wsJx4a65c_add_72be8 wsJx4a65c_grow_d5877 := goodIn_r _ [6, 1, 7, 8, 9, 5, 10, 11, 12, 13, 14, 15, 16, 17, 18, 19, 20, 21, 22, 23, 24, 25, 26, 27, 28, 29, 30, 31, 32, 33, 34, 35, 36, 37, 38, 39, 40, 41, 42, 43, 44, 45, 46, 47, 48, 49] (by decide +kernel) (by decide +kernel)
set_option maxRecDepth 20000 in
theorem gJx4a65c_add_72be8_Jx4a65c_grow_d5877 : GoodIn wsJx4a65c_add_72be8 (wsV RJx4a65c 129 RJx4a65c yJx4a65c_grow_d5877 wsJx4a65c_grow_d5877) := goodIn_app (goodIn_of _ (by decide +kernel)) ggJx4a65c_add_72be8_Jx4a65c_grow_d5877
set_option maxRecDepth 20000 in
theorem ggJx4a65c_add_9ea2d_Jx4a65c_add_72be8 : GoodIn wsJx4a65c_add_9ea2d wsJx4a65c_add_72be8 := goodIn_r _ [9, 4, 10, 11, 12, 8, 13, 14, 15, 16, 17, 3, 18, 19, 20, 21, 22, 23, 24, 25, 26, 27, 28, 29, 30, 31, 32, 33, 34, 35, 36, 37, 38, 39, 40, 41, 42, 43, 44, 45, 46, 47, 48, 49, 50, 51, 52, 53, 54, 55] (by decide +kernel) (by decide +kernel)
set_option maxRecDepth 20000 in
theorem gJx4a65c_add_9ea2d_Jx4a65c_add_72be8 : GoodIn wsJx4a65c_add_9ea2d (wsV RJx4a65c 131 RJx4a65c yJx4a65c_add_72be8 wsJx4a65c_add_72be8) := goodIn_app (goodIn_of _ (by decide +kernel)) ggJx4a65c_add_9ea2d_Jx4a65c_add_72be8
set_option maxRecDepth 20000 in
theorem ggJx4a65c_add_7a177_Jx4a65c_rangeCheckForAdd_d00df : GoodIn wsJx4a65c_add_7a177 wsJx4a65c_rangeCheckForAdd_d00df := goodIn_r _ [13, 3, 54, 55, 56] (by decide +kernel) (by decide +kernel)
set_option maxRecDepth 20000 in
theorem gJx4a65c_add_7a177_Jx4a65c_rangeCheckForAdd_d00df : GoodIn wsJx4a65c_add_7a177 (wsV RJx4a65c 135 RJx4a65c yJx4a65c_rangeCheckForAdd_d00df wsJx4a65c_rangeCheckForAdd_d00df) := goodIn_app (goodIn_of _ (by decide +kernel)) ggJx4a65c_add_7a177_Jx4a65c_rangeCheckForAdd_d00df
set_option maxRecDepth 20000 in
theorem ggJx4a65c_add_7a177_Jx4a65c_grow_d5877 : GoodIn wsJx4a65c_add_7a177 wsJx4a65c_grow_d5877 := goodIn_r _ [17, 3, 18, 19, 20, 12, 21, 4, 22, 23, 24, 25, 26, 27, 28, 29, 30, 31, 32, 33, 34, 35, 36, 37, 38, 39, 40, 41, 42, 43, 44, 45, 46, 47, 48, 49, 50, 51, 52, 53, 6, 7, 8, 54, 55, 56] (by decide +kernel) (by decide +kernel)
set_option maxRecDepth 20000 in
theorem gJx4a65c_add_7a177_Jx4a65c_grow_d5877 : GoodIn wsJx4a65c_add_7a177 (wsV RJx4a65c 129 RJx4a65c yJx4a65c_grow_d5877 wsJx4a65c_grow_d5877) := goodIn_app (goodIn_of _ (by decide +kernel)) ggJx4a65c_add_7a177_Jx4a65c_grow_d5877
set_option maxRecDepth 20000 in
theorem ggJx4a65c_outOfBoundsMsg_b52d3_J4_init_da8c8 : GoodIn wsJx4a65c_outOfBoundsMsg_b52d3 wsJ4_init_da8c8 := goodIn_r _ [7, 8, 9, 10, 11, 12, 13, 14, 15, 16, 17, 18, 19, 20, 21, 22, 23, 24, 25, 26, 237, 238, 239, 240] (by decide +kernel) (by decide +kernel)
set_option maxRecDepth 20000 in
theorem gJx4a65c_outOfBoundsMsg_b52d3_J4_init_da8c8 : GoodIn wsJx4a65c_outOfBoundsMsg_b52d3 (wsJ4_init_da8c8) := ggJx4a65c_outOfBoundsMsg_b52d3_J4_init_da8c8
set_option maxRecDepth 20000 in
theorem ggJx4a65c_outOfBoundsMsg_b52d3_J4_append_15ec4 : GoodIn wsJx4a65c_outOfBoundsMsg_b52d3 wsJ4_append_15ec4 := goodIn_r _ [30, 31, 32, 33, 34, 10, 35, 36, 37, 38, 39, 40, 41, 17, 42, 43, 44, 45, 46, 18, 47, 48, 49, 50, 51, 52, 53, 54, 55, 56, 57, 58, 59, 60, 61, 62, 63, 64, 65, 66, 67, 68, 69, 70, 71, 72, 73, 74, 16, 75, 76, 77, 78, 79, 80, 81, 82, 83, 84, 85, 86, 15, 87, 88, 21, 89, 90, 91, 92, 93, 94, 95, 96, 97, 98, 99, 100, 101, 102, 103, 104, 105, 106, 107, 108, 109, 110, 111, 112, 113, 114, 115, 116, 117, 118, 119, 120, 121, 122, 123, 124, 125, 126, 127, 128, 129, 130, 131, 132, 133, 134, 135, 136, 137, 19, 20, 22, 23, 24, 25, 26, 138, 139, 140, 141, 142, 143, 144, 145, 146, 147, 148, 149, 150, 151, 152, 153, 154, 155, 156, 157, 158, 159, 237, 238, 239, 240, 244, 245, 246, 247] (by decide +kernel) (by decide +kernel)
set_option maxRecDepth 20000 in
theorem gJx4a65c_outOfBoundsMsg_b52d3_J4_append_15ec4 : GoodIn wsJx4a65c_outOfBoundsMsg_b52d3 (wsV RJx4a65c 25 RJ4 yJ4_append_15ec4 wsJ4_append_15ec4) := goodIn_app (goodIn_of _ (by decide +kernel)) ggJx4a65c_outOfBoundsMsg_b52d3_J4_append_15ec4
set_option maxRecDepth 20000 in
theorem ggJx4a65c_outOfBoundsMsg_b52d3_J4_append_bf812 : GoodIn wsJx4a65c_outOfBoundsMsg_b52d3 wsJ4_append_bf812 := goodIn_r _ [163, 164, 165, 33, 166, 10, 167, 36, 17, 168, 169, 170, 171, 42, 43, 44, 45, 46, 18, 47, 48, 49, 50, 51, 52, 53, 54, 55, 56, 57, 58, 59, 60, 61, 62, 63, 64, 65, 66, 67, 68, 69, 70, 71, 72, 73, 74, 16, 75, 76, 77, 78, 79, 80, 81, 82, 83, 84, 85, 86, 15, 172, 173, 174, 175, 176, 177, 178, 21, 179, 90, 91, 92, 93, 94, 95, 96, 97, 98, 99, 100, 101, 102, 103, 104, 105, 180, 181, 182, 183, 184, 106, 107, 108, 109, 110, 237, 238, 239, 240] (by decide +kernel) (by decide +kernel)
set_option maxRecDepth 20000 in
theorem gJx4a65c_outOfBoundsMsg_b52d3_J4_append_bf812 : GoodIn wsJx4a65c_outOfBoundsMsg_b52d3 (wsV RJx4a65c 29 RJ4 yJ4_append_bf812 wsJ4_append_bf812) := goodIn_app (goodIn_of _ (by decide +kernel)) ggJx4a65c_outOfBoundsMsg_b52d3_J4_append_bf812
set_option maxRecDepth 20000 in
theorem ggJx4a65c_outOfBoundsMsg_b52d3_J4_toString_0e30d : GoodIn wsJx4a65c_outOfBoundsMsg_b52d3 wsJ4_toString_0e30d := goodIn_r _ [188, 189, 190, 99, 191, 192, 193, 194, 195, 196, 197, 13, 14, 121, 115, 120, 198, 199, 200, 201, 202, 10, 203, 17, 204, 205, 206, 207, 208, 3, 209, 210, 33, 211, 212, 36, 213, 83, 84, 85, 86, 15, 18, 214, 215, 67, 216, 69, 70, 71, 72, 73, 74, 217, 218, 219, 16, 75, 76, 59, 77, 78, 79, 80, 81, 220, 221, 222, 223, 2, 224, 225, 21, 226, 227, 228, 229, 145, 146, 147, 94, 95, 96, 148, 149, 150, 101, 151, 152, 104, 153, 230, 231, 232, 90, 109, 110, 23, 24, 25, 26, 233, 234, 235, 236, 244, 245, 246, 247, 237, 238, 239, 240] (by decide +kernel) (by decide +kernel)
set_option maxRecDepth 20000 in
theorem gJx4a65c_outOfBoundsMsg_b52d3_J4_toString_0e30d : GoodIn wsJx4a65c_outOfBoundsMsg_b52d3 (wsV RJx4a65c 32 RJ4 yJ4_toString_0e30d wsJ4_toString_0e30d) := goodIn_app (goodIn_of _ (by decide +kernel)) ggJx4a65c_outOfBoundsMsg_b52d3_J4_toString_0e30d
set_option maxRecDepth 20000 in
theorem ggJ7_copyOf_1904c_J7_copyOf_6403c : GoodIn wsJ7_copyOf_1904c wsJ7_copyOf_6403c := goodIn_r _ [8, 9, 10, 11, 12, 13, 14, 15, 16, 17, 18] (by decide +kernel) (by decide +kernel)
set_option maxRecDepth 20000 in
theorem gJ7_copyOf_1904c_J7_copyOf_6403c : GoodIn wsJ7_copyOf_1904c (va_wsS RJ7 300 yJ7_copyOf_6403c wsJ7_copyOf_6403c) := goodIn_app (goodIn_of _ (by decide +kernel)) ggJ7_copyOf_1904c_J7_copyOf_6403c
set_option maxRecDepth 20000 in
theorem ggJ7_copyOfRange_39247_J7_copyOfRangeByte_39247 : GoodIn wsJ7_copyOfRange_39247 wsJ7_copyOfRangeByte_39247 := goodIn_r _ [10, 11, 12, 13, 14, 15, 16, 17, 18, 19, 20, 21, 9, 22, 23, 24, 25, 26, 27, 28, 29] (by decide +kernel) (by decide +kernel)
set_option maxRecDepth 20000 in
theorem gJ7_copyOfRange_39247_J7_copyOfRangeByte_39247 : GoodIn wsJ7_copyOfRange_39247 (va_wsS RJ7 339 yJ7_copyOfRangeByte_39247 wsJ7_copyOfRangeByte_39247) := goodIn_app (goodIn_of _ (by decide +kernel)) ggJ7_copyOfRange_39247_J7_copyOfRangeByte_39247
set_option maxRecDepth 20000 in
theorem ggJ7_copyOfRangeByte_39247_J7_checkLength_df160 : GoodIn wsJ7_copyOfRangeByte_39247 wsJ7_checkLength_df160 := goodIn_r _ [13, 14, 15, 16, 17, 18, 19, 20] (by decide +kernel) (by decide +kernel)
set_option maxRecDepth 20000 in
theorem gJ7_copyOfRangeByte_39247_J7_checkLength_df160 : GoodIn wsJ7_copyOfRangeByte_39247 (va_wsS RJ7 343 yJ7_checkLength_df160 wsJ7_checkLength_df160) := goodIn_app (goodIn_of _ (by decide +kernel)) ggJ7_copyOfRangeByte_39247_J7_checkLength_df160
set_option maxRecDepth 20000 in
theorem ggJ15_checkIndex_7cf53_J3_checkIndex_8e157 : GoodIn wsJ15_checkIndex_7cf53 wsJ3_checkIndex_8e157 := goodIn_r _ [4] (by decide +kernel) (by decide +kernel)
set_option maxRecDepth 20000 in
theorem gJ15_checkIndex_7cf53_J3_checkIndex_8e157 : GoodIn wsJ15_checkIndex_7cf53 (va_wsS RJ15 105 yJ3_checkIndex_8e157 wsJ3_checkIndex_8e157) := goodIn_app (goodIn_of _ (by decide +kernel)) ggJ15_checkIndex_7cf53_J3_checkIndex_8e157
set_option maxRecDepth 20000 in
theorem ggJ8_newLength_cabcc_J8_hugeLength_7cf53 : GoodIn wsJ8_newLength_cabcc wsJ8_hugeLength_7cf53 := goodIn_r _ [9, 5] (by decide +kernel) (by decide +kernel)
set_option maxRecDepth 20000 in
theorem gJ8_newLength_cabcc_J8_hugeLength_7cf53 : GoodIn wsJ8_newLength_cabcc (va_wsS RJ8 201 yJ8_hugeLength_7cf53 wsJ8_hugeLength_7cf53) := goodIn_app (goodIn_of _ (by decide +kernel)) ggJ8_newLength_cabcc_J8_hugeLength_7cf53
set_option maxRecDepth 20000 in
theorem ggL_store_X3_store : GoodIn wsL_store wsX3_store := goodIn_ca (goodIn_ca (goodIn_r _ [7, 8, 9, 10, 11, 12, 13, 14, 15, 16, 17, 6, 18, 19, 20, 21, 22, 23, 24, 25, 26, 27, 28, 29, 30, 31, 32, 33, 34, 35, 36, 37, 38, 39, 40, 41, 42, 43, 44, 45, 46, 47, 48, 49, 50, 51, 52, 53, 54, 55, 56, 57, 58, 59, 60, 61, 62, 63, 64, 65, 66, 67, 68, 69, 70, 71, 72, 73, 74, 75, 76, 77, 78, 79, 80, 81, 82, 83, 84, 85, 86, 87, 88, 89, 90, 91, 92, 93, 94, 95, 96, 97, 98, 99, 100, 101, 102, 103, 104, 105, 106, 107, 108, 109, 110, 111, 112, 113, 114, 115, 116, 117, 118, 119, 120] (by decide +kernel) (by decide +kernel)) (goodIn_sub (fun _ h => List.mem_cons_of_mem _ (List.mem_append_left _ (List.mem_append_right _ h))) (by decide +kernel))) (goodIn_sub (fun _ h => List.mem_cons_of_mem _ (List.mem_append_right _ h)) (by decide +kernel))
set_option maxRecDepth 20000 in
theorem gL_store_X3_store : GoodIn wsL_store (wsV RL 7 RX3 yX3_store wsX3_store) := goodIn_app (goodIn_of _ (by decide +kernel)) ggL_store_X3_store
set_option maxRecDepth 20000 in
theorem ggL_delete_X3_delete : GoodIn wsL_delete wsX3_delete := goodIn_ca (goodIn_ca (goodIn_r _ [7, 8, 9, 10, 11, 12, 13, 14, 6, 15, 16, 17, 18, 19, 20, 21, 22, 23, 24, 25, 26, 27, 28, 29, 30, 31, 32, 33, 34, 35, 36, 37, 38, 39, 40, 41, 42, 43, 44, 45, 46, 47, 48, 49, 50, 51, 52, 53, 54, 55, 56, 57, 58, 59, 60, 61, 62, 63] (by decide +kernel) (by decide +kernel)) (goodIn_sub (fun _ h => List.mem_cons_of_mem _ (List.mem_append_left _ (List.mem_append_right _ h))) (by decide +kernel))) (goodIn_sub (fun _ h => List.mem_cons_of_mem _ (List.mem_append_right _ h)) (by decide +kernel))
set_option maxRecDepth 20000 in
theorem gL_delete_X3_delete : GoodIn wsL_delete (wsV RL 17 RX3 yX3_delete wsX3_delete) := goodIn_app (goodIn_of _ (by decide +kernel)) ggL_delete_X3_delete
set_option maxRecDepth 20000 in
theorem ggL_isLive_X3_isLive : GoodIn wsL_isLive wsX3_isLive := goodIn_ca (goodIn_r _ [6, 7, 8, 9, 10, 5, 11, 12, 13, 14, 15, 16, 17, 18, 19, 20, 21, 22, 23, 24, 25, 26, 27, 28, 29, 30, 31, 32, 33, 34, 35, 36, 37, 38, 39, 40, 41, 42, 43, 44, 45, 46, 47, 48, 49, 50, 51, 52, 53, 54, 55] (by decide +kernel) (by decide +kernel)) (goodIn_sub (fun _ h => List.mem_cons_of_mem _ (List.mem_append_right _ h)) (by decide +kernel))
set_option maxRecDepth 20000 in
theorem gL_isLive_X3_isLive : GoodIn wsL_isLive (wsV RL 23 RX3 yX3_isLive wsX3_isLive) := goodIn_app (goodIn_of _ (by decide +kernel)) ggL_isLive_X3_isLive
set_option maxRecDepth 20000 in
theorem ggL_isLoose_X3_isLoose : GoodIn wsL_isLoose wsX3_isLoose := goodIn_ca (goodIn_r _ [6, 7, 8, 9, 10, 5, 11, 12, 13, 14, 15, 16, 17, 18, 19, 20, 21, 22, 23, 24, 25, 26, 27, 28, 29, 30, 31, 32, 33, 34, 35, 36, 37, 38, 39, 40, 41, 42, 43, 44, 45, 46, 47, 48, 49, 50, 51, 52, 53, 54, 55] (by decide +kernel) (by decide +kernel)) (goodIn_sub (fun _ h => List.mem_cons_of_mem _ (List.mem_append_right _ h)) (by decide +kernel))
set_option maxRecDepth 20000 in
theorem gL_isLoose_X3_isLoose : GoodIn wsL_isLoose (wsV RL 27 RX3 yX3_isLoose wsX3_isLoose) := goodIn_app (goodIn_of _ (by decide +kernel)) ggL_isLoose_X3_isLoose
set_option maxRecDepth 20000 in
theorem ggL_canRead_X3_canRead : GoodIn wsL_canRead wsX3_canRead := goodIn_ca (goodIn_r _ [6, 7, 8, 9, 5, 10, 11, 12, 13, 14, 15, 16, 17, 18, 19, 20, 21, 22, 23, 24, 25, 26, 27, 28, 29, 30, 31, 32, 33, 34, 35, 36, 37, 38, 39, 40, 41, 42, 43, 44, 45, 46, 47, 48, 49, 50, 51, 52, 53, 54, 55, 56, 57, 58, 59, 60, 61, 62, 63, 64, 65, 66, 67, 68, 69, 70, 71, 72, 73, 74, 75, 76, 77] (by decide +kernel) (by decide +kernel)) (goodIn_sub (fun _ h => List.mem_cons_of_mem _ (List.mem_append_right _ h)) (by decide +kernel))
set_option maxRecDepth 20000 in
theorem gL_canRead_X3_canRead : GoodIn wsL_canRead (wsV RL 30 RX3 yX3_canRead wsX3_canRead) := goodIn_app (goodIn_of _ (by decide +kernel)) ggL_canRead_X3_canRead
set_option maxRecDepth 20000 in
theorem ggL_read_X3_read : GoodIn wsL_read wsX3_read := goodIn_ca (goodIn_ca (goodIn_r _ [7, 8, 9, 10, 11, 12, 13, 6, 14, 15, 16, 17, 18, 19, 20, 21, 22, 23, 24, 25, 26, 27, 28, 29, 30, 31, 32, 33, 34, 35, 36, 37, 38, 39, 40, 41, 42, 43, 44, 45, 46, 47, 48, 49, 50, 51, 52, 53, 54, 55, 56, 57, 58, 59, 60, 61, 62, 63, 64, 65, 66, 67, 68, 69, 70, 71, 72, 73, 74, 75, 76, 77, 78, 79, 80, 81] (by decide +kernel) (by decide +kernel)) (goodIn_sub (fun _ h => List.mem_cons_of_mem _ (List.mem_append_left _ (List.mem_append_right _ h))) (by decide +kernel))) (goodIn_sub (fun _ h => List.mem_cons_of_mem _ (List.mem_append_right _ h)) (by decide +kernel))
set_option maxRecDepth 20000 in
theorem gL_read_X3_read : GoodIn wsL_read (wsV RL 33 RX3 yX3_read wsX3_read) := goodIn_app (goodIn_of _ (by decide +kernel)) ggL_read_X3_read
set_option maxRecDepth 20000 in
theorem ggL_pack_X3_pack : GoodIn wsL_pack wsX3_pack := goodIn_ca (goodIn_r _ [6, 7, 8, 9, 10, 11, 12, 13, 14, 15, 16, 5, 17, 18, 19, 20, 21, 22, 23, 24, 25, 26, 27, 28, 29, 30, 31, 32, 33, 34, 35, 36, 37, 38, 39, 40, 41, 42, 43, 44, 45, 46, 47, 48, 49, 50, 51, 52, 53, 54, 55, 56, 57, 58, 59, 60, 61, 62, 63, 64, 65, 66, 67, 68, 69, 70, 71, 72, 73, 74, 75, 76, 77, 78, 79, 80, 81, 82, 83, 84, 85, 86, 87, 88, 89, 90, 91, 92, 93, 94, 95, 96, 97, 98, 99, 100, 101, 102, 103, 104, 105, 106, 107, 108, 109, 110, 111, 112, 113, 114, 115, 116, 117, 118, 119, 120, 121, 122, 123, 124, 125, 126, 127, 128, 129, 130, 131, 132, 133, 134, 135, 136, 137, 138, 139, 140, 141, 142, 143, 144, 145, 146, 147, 148, 149, 150, 151, 152, 153, 154, 155, 156, 157, 158, 159, 160, 161, 162, 163, 164, 165, 166, 167, 168, 169, 170, 171, 172, 173, 174, 175, 176, 177, 178, 179, 180, 181, 182, 183, 184, 185, 186, 187, 188, 189, 190, 191, 192, 193, 194, 195, 196, 197, 198, 199, 200, 201, 202, 203, 204, 205, 206, 207, 208, 209, 210, 211, 212, 213, 214, 215, 216, 217, 218, 219, 220] (by decide +kernel) (by decide +kernel)) (goodIn_sub (fun _ h => List.mem_cons_of_mem _ (List.mem_append_right _ h)) (by decide +kernel))
set_option maxRecDepth 20000 in
theorem gL_pack_X3_pack : GoodIn wsL_pack (wsV RL 37 RX3 yX3_pack wsX3_pack) := goodIn_app (goodIn_of _ (by decide +kernel)) ggL_pack_X3_pack
set_option maxRecDepth 20000 in
theorem ggL_damage_X3_damage : GoodIn wsL_damage wsX3_damage := goodIn_ca (goodIn_ca (goodIn_r _ [7, 8, 9, 10, 11, 12, 13, 6, 14, 15, 16, 17, 18, 19, 20, 21, 22, 23, 24, 25, 26, 27, 28, 29, 30, 31, 32, 33, 34, 35, 36, 37, 38, 39, 40, 41, 42, 43, 44, 45, 46, 47, 48, 49, 50, 51, 52, 53, 54, 55, 56, 57, 58, 59, 60, 61, 62, 63, 64, 65, 66, 67, 68, 69, 70, 71, 72, 73, 74, 75, 76, 77, 78, 79, 80, 81, 82, 83, 84, 85] (by decide +kernel) (by decide +kernel)) (goodIn_sub (fun _ h => List.mem_cons_of_mem _ (List.mem_append_left _ (List.mem_append_right _ h))) (by decide +kernel))) (goodIn_sub (fun _ h => List.mem_cons_of_mem _ (List.mem_append_right _ h)) (by decide +kernel))
set_option maxRecDepth 20000 in
theorem gL_damage_X3_damage : GoodIn wsL_damage (wsV RL 41 RX3 yX3_damage wsX3_damage) := goodIn_app (goodIn_of _ (by decide +kernel)) ggL_damage_X3_damage
set_option maxRecDepth 20000 in
theorem ggL_costOf_X3_costOf : GoodIn wsL_costOf wsX3_costOf := goodIn_ca (goodIn_ca (goodIn_r _ [7, 8, 9, 10, 11, 6, 12, 13, 14, 15, 16, 17, 18, 19, 20, 21, 22, 23, 24, 25, 26, 27, 28, 29, 30, 31, 32, 33, 34, 35, 36, 37, 38, 39, 40, 41, 42, 43, 44, 45, 46, 47, 48, 49, 50, 51, 52, 53, 54, 55, 56, 57, 58, 59, 60, 61, 62, 63, 64, 65, 66, 67, 68] (by decide +kernel) (by decide +kernel)) (goodIn_sub (fun _ h => List.mem_cons_of_mem _ (List.mem_append_left _ (List.mem_append_right _ h))) (by decide +kernel))) (goodIn_sub (fun _ h => List.mem_cons_of_mem _ (List.mem_append_right _ h)) (by decide +kernel))
set_option maxRecDepth 20000 in
theorem gL_costOf_X3_costOf : GoodIn wsL_costOf (wsV RL 44 RX3 yX3_costOf wsX3_costOf) := goodIn_app (goodIn_of _ (by decide +kernel)) ggL_costOf_X3_costOf
set_option maxRecDepth 20000 in
theorem ggL_base_X3_base : GoodIn wsL_base wsX3_base := goodIn_ca (goodIn_ca (goodIn_r _ [7, 8, 9, 10, 11, 12, 6, 13, 14, 15, 16, 17, 18, 19, 20, 21, 22, 23, 24, 25, 26, 27, 28, 29, 30, 31, 32, 33, 34, 35, 36, 37, 38, 39, 40, 41, 42, 43, 44, 45, 46, 47, 48, 49, 50, 51, 52, 53, 54, 55, 56, 57, 58, 59, 60, 61, 62, 63, 64, 65, 66, 67, 68, 69] (by decide +kernel) (by decide +kernel)) (goodIn_sub (fun _ h => List.mem_cons_of_mem _ (List.mem_append_left _ (List.mem_append_right _ h))) (by decide +kernel))) (goodIn_sub (fun _ h => List.mem_cons_of_mem _ (List.mem_append_right _ h)) (by decide +kernel))
set_option maxRecDepth 20000 in
theorem gL_base_X3_base : GoodIn wsL_base (wsV RL 47 RX3 yX3_base wsX3_base) := goodIn_app (goodIn_of _ (by decide +kernel)) ggL_base_X3_base
set_option maxRecDepth 20000 in
theorem ggL_depth_X3_depth : GoodIn wsL_depth wsX3_depth := goodIn_ca (goodIn_ca (goodIn_r _ [7, 8, 9, 10, 11, 6, 12, 13, 14, 15, 16, 17, 18, 19, 20, 21, 22, 23, 24, 25, 26, 27, 28, 29, 30, 31, 32, 33, 34, 35, 36, 37, 38, 39, 40, 41, 42, 43, 44, 45, 46, 47, 48, 49, 50, 51, 52, 53, 54, 55, 56, 57, 58, 59, 60, 61, 62, 63, 64, 65, 66, 67, 68] (by decide +kernel) (by decide +kernel)) (goodIn_sub (fun _ h => List.mem_cons_of_mem _ (List.mem_append_left _ (List.mem_append_right _ h))) (by decide +kernel))) (goodIn_sub (fun _ h => List.mem_cons_of_mem _ (List.mem_append_right _ h)) (by decide +kernel))
set_option maxRecDepth 20000 in
theorem gL_depth_X3_depth : GoodIn wsL_depth (wsV RL 50 RX3 yX3_depth wsX3_depth) := goodIn_app (goodIn_of _ (by decide +kernel)) ggL_depth_X3_depth
set_option maxRecDepth 20000 in
theorem ggL_parts_X3_parts : GoodIn wsL_parts wsX3_parts := goodIn_ca (goodIn_ca (goodIn_r _ [7, 8, 9, 10, 11, 6, 12, 13, 14, 15, 16, 17, 18, 19, 20, 21, 22, 23, 24, 25, 26, 27, 28, 29, 30, 31, 32, 33, 34, 35, 36, 37, 38, 39, 40, 41, 42, 43, 44, 45, 46, 47, 48, 49, 50, 51, 52, 53, 54, 55, 56, 57, 58, 59, 60, 61, 62, 63, 64, 65, 66, 67, 68] (by decide +kernel) (by decide +kernel)) (goodIn_sub (fun _ h => List.mem_cons_of_mem _ (List.mem_append_left _ (List.mem_append_right _ h))) (by decide +kernel))) (goodIn_sub (fun _ h => List.mem_cons_of_mem _ (List.mem_append_right _ h)) (by decide +kernel))
set_option maxRecDepth 20000 in
theorem gL_parts_X3_parts : GoodIn wsL_parts (wsV RL 53 RX3 yX3_parts wsX3_parts) := goodIn_app (goodIn_of _ (by decide +kernel)) ggL_parts_X3_parts
set_option maxRecDepth 20000 in
theorem ggL_dependents_X3_dependents : GoodIn wsL_dependents wsX3_dependents := goodIn_ca (goodIn_ca (goodIn_r _ [7, 8, 9, 10, 11, 12, 13, 14, 15, 6, 16, 17, 18, 19, 20, 21, 22, 23, 24, 25, 26, 27, 28, 29, 30, 31, 32, 33, 34, 35, 36, 37, 38, 39, 40, 41, 42, 43, 44, 45, 46, 47, 48, 49, 50, 51, 52, 53, 54, 55, 56, 57, 58, 59, 60, 61, 62, 63, 64, 65, 66, 67, 68, 69, 70, 71, 72, 73, 74, 75] (by decide +kernel) (by decide +kernel)) (goodIn_sub (fun _ h => List.mem_cons_of_mem _ (List.mem_append_left _ (List.mem_append_right _ h))) (by decide +kernel))) (goodIn_sub (fun _ h => List.mem_cons_of_mem _ (List.mem_append_right _ h)) (by decide +kernel))
set_option maxRecDepth 20000 in
theorem gL_dependents_X3_dependents : GoodIn wsL_dependents (wsV RL 56 RX3 yX3_dependents wsX3_dependents) := goodIn_app (goodIn_of _ (by decide +kernel)) ggL_dependents_X3_dependents
set_option maxRecDepth 20000 in
theorem ggL_deltaCost_X3_deltaCost : GoodIn wsL_deltaCost wsX3_deltaCost := goodIn_ca (goodIn_r _ [6, 7, 8, 9, 5, 10, 11, 12, 13, 14, 15, 16, 17, 18, 19, 20, 21, 22, 23, 24, 25, 26, 27, 28, 29, 30, 31, 32, 33, 34, 35, 36, 37, 38, 39, 40, 41, 42, 43, 44, 45, 46, 47, 48, 49, 50, 51, 52, 53, 54, 55, 56, 57, 58, 59, 60, 61, 62, 63, 64, 65, 66, 67, 68, 69, 70, 71, 72, 73, 74, 75, 76, 77, 78, 79, 80, 81, 82, 83] (by decide +kernel) (by decide +kernel)) (goodIn_sub (fun _ h => List.mem_cons_of_mem _ (List.mem_append_right _ h)) (by decide +kernel))
set_option maxRecDepth 20000 in
theorem gL_deltaCost_X3_deltaCost : GoodIn wsL_deltaCost (wsV RL 59 RX3 yX3_deltaCost wsX3_deltaCost) := goodIn_app (goodIn_of _ (by decide +kernel)) ggL_deltaCost_X3_deltaCost
set_option maxRecDepth 20000 in
theorem ggL_hash_X3_hash : GoodIn wsL_hash wsX3_hash := goodIn_ca (goodIn_r _ [6, 7, 8, 9, 10, 5, 11, 12, 13, 14, 15, 16, 17, 18, 19, 20, 21, 22] (by decide +kernel) (by decide +kernel)) (goodIn_sub (fun _ h => List.mem_cons_of_mem _ (List.mem_append_right _ h)) (by decide +kernel))
set_option maxRecDepth 20000 in
theorem gL_hash_X3_hash : GoodIn wsL_hash (wsV RL 63 RX3 yX3_hash wsX3_hash) := goodIn_app (goodIn_of _ (by decide +kernel)) ggL_hash_X3_hash
set_option maxRecDepth 20000 in
theorem ggL_indexAt_X3_indexAt : GoodIn wsL_indexAt wsX3_indexAt := goodIn_ca (goodIn_r _ [6, 7, 8, 9, 10, 11, 12, 13, 14, 15, 16, 17, 18, 19, 20, 21, 22, 23, 24, 25, 26, 27, 28, 29, 30, 31, 32, 33, 34, 35, 36, 37, 38, 39, 40, 41, 42, 43, 44, 45, 46, 47, 48, 49, 50, 51] (by decide +kernel) (by decide +kernel)) (goodIn_sub (fun _ h => List.mem_cons_of_mem _ (List.mem_append_right _ h)) (by decide +kernel))
set_option maxRecDepth 20000 in
theorem gL_indexAt_X3_indexAt : GoodIn wsL_indexAt (wsV RL 67 RX3 yX3_indexAt wsX3_indexAt) := goodIn_app (goodIn_of _ (by decide +kernel)) ggL_indexAt_X3_indexAt
set_option maxRecDepth 20000 in
theorem ggL_fanOut_X3_fanOut : GoodIn wsL_fanOut wsX3_fanOut := goodIn_ca (goodIn_r _ [6, 7, 8, 9, 10, 11, 5, 12, 13, 14, 15, 16, 17, 18, 19, 20, 21, 22, 23, 24, 25, 26, 27, 28, 29, 30, 31, 32, 33, 34, 35, 36, 37, 38, 39, 40, 41, 42, 43, 44, 45, 46, 47, 48, 49, 50, 51, 52, 53, 54, 55] (by decide +kernel) (by decide +kernel)) (goodIn_sub (fun _ h => List.mem_cons_of_mem _ (List.mem_append_right _ h)) (by decide +kernel))
set_option maxRecDepth 20000 in
theorem gL_fanOut_X3_fanOut : GoodIn wsL_fanOut (wsV RL 70 RX3 yX3_fanOut wsX3_fanOut) := goodIn_app (goodIn_of _ (by decide +kernel)) ggL_fanOut_X3_fanOut
set_option maxRecDepth 20000 in
theorem ggL_find_X3_find : GoodIn wsL_find wsX3_find := goodIn_ca (goodIn_r _ [6, 7, 8, 9, 10, 11, 5, 12, 13, 14, 15, 16, 17, 18, 19, 20, 21, 22, 23, 24, 25, 26, 27, 28, 29, 30, 31, 32, 33, 34, 35, 36, 37, 38, 39, 40, 41, 42, 43, 44, 45, 46, 47, 48, 49, 50, 51, 52, 53, 54, 55, 56, 57, 58, 59, 60, 61, 62, 63, 64, 65, 66, 67, 68, 69, 70, 71, 72, 73, 74, 75] (by decide +kernel) (by decide +kernel)) (goodIn_sub (fun _ h => List.mem_cons_of_mem _ (List.mem_append_right _ h)) (by decide +kernel))
set_option maxRecDepth 20000 in
theorem gL_find_X3_find : GoodIn wsL_find (wsV RL 73 RX3 yX3_find wsX3_find) := goodIn_app (goodIn_of _ (by decide +kernel)) ggL_find_X3_find
set_option maxRecDepth 20000 in
theorem ggL_looks_X3_looks : GoodIn wsL_looks wsX3_looks := goodIn_ca (goodIn_r _ [6, 7, 8, 9, 10, 5, 11, 12, 13, 14, 15, 16, 17, 18, 19, 20, 21, 22, 23, 24, 25, 26, 27, 28, 29, 30, 31, 32, 33, 34, 35, 36, 37, 38, 39, 40, 41, 42, 43, 44, 45, 46, 47, 48, 49, 50, 51, 52, 53, 54, 55, 56, 57, 58, 59, 60, 61, 62, 63, 64, 65, 66, 67, 68, 69, 70, 71, 72, 73, 74] (by decide +kernel) (by decide +kernel)) (goodIn_sub (fun _ h => List.mem_cons_of_mem _ (List.mem_append_right _ h)) (by decide +kernel))
set_option maxRecDepth 20000 in
theorem gL_looks_X3_looks : GoodIn wsL_looks (wsV RL 76 RX3 yX3_looks wsX3_looks) := goodIn_app (goodIn_of _ (by decide +kernel)) ggL_looks_X3_looks
set_option maxRecDepth 20000 in
theorem ggL_law_X3_init : GoodIn wsL_law wsX3_init := goodIn_r _ [10, 11, 12, 13, 14, 15, 16, 17, 18, 19, 20, 21, 22, 23, 24, 25, 26, 27, 28, 29, 30, 31, 32, 33, 34, 35, 36, 712, 713, 714, 682, 683, 684, 685, 686] (by decide +kernel) (by decide +kernel)
set_option maxRecDepth 20000 in
theorem gL_law_X3_init : GoodIn wsL_law (wsX3_init) := ggL_law_X3_init
set_option maxRecDepth 20000 in
theorem ggL_law_X4_init : GoodIn wsL_law wsX4_init := goodIn_r _ [39, 40, 12, 13, 41, 42, 6, 43, 44, 45, 46, 47, 48, 49, 50, 51, 52, 53, 54, 55, 56, 57, 58, 59, 687, 688, 689, 690, 691, 692, 693, 694, 695, 696, 697, 698, 699, 700, 701, 702, 703, 704, 705, 706, 707, 708, 709, 710, 711] (by decide +kernel) (by decide +kernel)
set_option maxRecDepth 20000 in
theorem gL_law_X4_init : GoodIn wsL_law (wsX4_init) := ggL_law_X4_init
set_option maxRecDepth 20000 in
theorem ggL_law_L_store : GoodIn wsL_law wsL_store := goodIn_ca (goodIn_ca (goodIn_r _ [63, 64, 65, 66, 67, 68, 2, 69, 70, 71, 72, 73, 17, 74, 75, 76, 77, 78, 79, 80, 81, 82, 83, 84, 16, 85, 86, 87, 88, 89, 90, 12, 13, 91, 92, 93, 94, 95, 96, 97, 98, 99, 100, 101, 102, 103, 104, 105, 106, 107, 108, 109, 110, 111, 112, 113, 26, 114, 115, 116, 117, 118, 119, 120, 121, 122, 123, 124, 125, 25, 126, 127, 128, 129, 130, 131, 132, 133, 134, 135, 136, 137, 138, 139, 140, 141, 142, 143, 144, 145, 146, 147, 148, 149, 150, 151, 152, 153, 154, 155, 156, 157, 158, 159, 682, 683, 684, 685, 686, 715, 716, 717, 718, 719, 720, 721, 722, 723, 712, 713, 714] (by decide +kernel) (by decide +kernel)) (goodIn_sub (fun _ h => List.mem_append_left _ (List.mem_append_left _ (List.mem_append_right _ h))) (by decide +kernel))) (goodIn_sub (fun _ h => List.mem_append_left _ (List.mem_append_right _ h)) (by decide +kernel))
set_option maxRecDepth 20000 in
theorem gL_law_L_store : GoodIn wsL_law (va_wsS RL 85 yL_store wsL_store) := goodIn_app (goodIn_of _ (by decide +kernel)) ggL_law_L_store
set_option maxRecDepth 20000 in
theorem ggL_law_X4_store : GoodIn wsL_law wsX4_store := goodIn_r _ [163, 164, 42, 43, 45, 46, 47, 165, 166, 5, 167, 168, 169, 170, 171, 172, 173, 174, 175, 176, 177, 178, 179, 687, 688, 689, 690, 691, 692, 693, 694, 695, 696, 697, 698, 699, 700, 701, 702, 703, 704, 705, 706, 707, 708, 709, 710, 711] (by decide +kernel) (by decide +kernel)
set_option maxRecDepth 20000 in
theorem gL_law_X4_store : GoodIn wsL_law (wsV RL 90 RX4 yX4_store wsX4_store) := goodIn_app (goodIn_of _ (by decide +kernel)) ggL_law_X4_store
set_option maxRecDepth 20000 in
theorem ggL_law_X4_thrown : GoodIn wsL_law wsX4_thrown := goodIn_r _ [183, 179, 687, 688, 689, 690, 691, 692, 693, 694, 695, 696, 697, 698, 699, 700, 701, 702, 703, 704, 705, 706, 707, 708, 709, 710, 711] (by decide +kernel) (by decide +kernel)
set_option maxRecDepth 20000 in
theorem gL_law_X4_thrown : GoodIn wsL_law (wsV RL 91 RX4 yX4_thrown wsX4_thrown) := goodIn_app (goodIn_of _ (by decide +kernel)) ggL_law_X4_thrown
set_option maxRecDepth 20000 in
theorem ggL_law_L_delete : GoodIn wsL_law wsL_delete := goodIn_ca (goodIn_ca (goodIn_r _ [186, 187, 65, 188, 189, 190, 2, 191, 72, 73, 192, 193, 194, 195, 196, 197, 198, 199, 17, 200, 82, 83, 84, 16, 85, 86, 201, 202, 203, 204, 205, 206, 207, 208, 209, 210, 211, 212, 213, 214, 215, 216, 26, 217, 218, 219, 220, 715, 716, 717, 718, 719, 720, 721, 722, 723, 682, 683, 684, 685, 686, 712, 713, 714] (by decide +kernel) (by decide +kernel)) (goodIn_sub (fun _ h => List.mem_append_left _ (List.mem_append_right _ h)) (by decide +kernel))) (goodIn_sub (fun _ h => List.mem_append_right _ h) (by decide +kernel))
set_option maxRecDepth 20000 in
theorem gL_law_L_delete : GoodIn wsL_law (va_wsS RL 95 yL_delete wsL_delete) := goodIn_app (goodIn_of _ (by decide +kernel)) ggL_law_L_delete
set_option maxRecDepth 20000 in
theorem ggL_law_X4_delete : GoodIn wsL_law wsX4_delete := goodIn_r _ [224, 45, 46, 164, 225, 226, 227, 5, 228, 165, 166, 167, 175, 176, 177, 178, 179, 687, 688, 689, 690, 691, 692, 693, 694, 695, 696, 697, 698, 699, 700, 701, 702, 703, 704, 705, 706, 707, 708, 709, 710, 711] (by decide +kernel) (by decide +kernel)
set_option maxRecDepth 20000 in
theorem gL_law_X4_delete : GoodIn wsL_law (wsV RL 98 RX4 yX4_delete wsX4_delete) := goodIn_app (goodIn_of _ (by decide +kernel)) ggL_law_X4_delete
set_option maxRecDepth 20000 in
theorem ggL_law_X3_objects : GoodIn wsL_law wsX3_objects := goodIn_r _ [232, 17, 82, 83, 84, 16, 85, 86, 682, 683, 684, 685, 686, 712, 713, 714] (by decide +kernel) (by decide +kernel)
set_option maxRecDepth 20000 in
theorem gL_law_X3_objects : GoodIn wsL_law (wsV RL 99 RX3 yX3_objects wsX3_objects) := goodIn_app (goodIn_of _ (by decide +kernel)) ggL_law_X3_objects
set_option maxRecDepth 20000 in
theorem ggL_law_X4_objects : GoodIn wsL_law wsX4_objects := goodIn_r _ [236, 179, 164, 687, 688, 689, 690, 691, 692, 693, 694, 695, 696, 697, 698, 699, 700, 701, 702, 703, 704, 705, 706, 707, 708, 709, 710, 711] (by decide +kernel) (by decide +kernel)
set_option maxRecDepth 20000 in
theorem gL_law_X4_objects : GoodIn wsL_law (wsV RL 102 RX4 yX4_objects wsX4_objects) := goodIn_app (goodIn_of _ (by decide +kernel)) ggL_law_X4_objects
set_option maxRecDepth 20000 in
theorem ggL_law_L_isLive : GoodIn wsL_law wsL_isLive := goodIn_ca (goodIn_r _ [239, 187, 240, 241, 242, 2, 243, 192, 194, 195, 196, 197, 198, 199, 17, 200, 82, 83, 84, 16, 85, 86, 201, 202, 203, 204, 205, 206, 207, 208, 209, 210, 211, 212, 213, 214, 215, 216, 26, 715, 716, 717, 718, 719, 720, 721, 722, 723, 682, 683, 684, 685, 686, 712, 713, 714] (by decide +kernel) (by decide +kernel)) (goodIn_sub (fun _ h => List.mem_append_right _ h) (by decide +kernel))
set_option maxRecDepth 20000 in
theorem gL_law_L_isLive : GoodIn wsL_law (va_wsS RL 103 yL_isLive wsL_isLive) := goodIn_app (goodIn_of _ (by decide +kernel)) ggL_law_L_isLive
set_option maxRecDepth 20000 in
theorem ggL_law_X4_isLive : GoodIn wsL_law wsX4_isLive := goodIn_r _ [247, 45, 225, 226, 227, 5, 228, 164, 165, 166, 167, 175, 176, 177, 178, 179, 687, 688, 689, 690, 691, 692, 693, 694, 695, 696, 697, 698, 699, 700, 701, 702, 703, 704, 705, 706, 707, 708, 709, 710, 711] (by decide +kernel) (by decide +kernel)
set_option maxRecDepth 20000 in
theorem gL_law_X4_isLive : GoodIn wsL_law (wsV RL 105 RX4 yX4_isLive wsX4_isLive) := goodIn_app (goodIn_of _ (by decide +kernel)) ggL_law_X4_isLive
set_option maxRecDepth 20000 in
theorem ggL_law_L_isLoose : GoodIn wsL_law wsL_isLoose := goodIn_ca (goodIn_r _ [250, 187, 251, 252, 253, 2, 254, 193, 194, 195, 196, 197, 198, 199, 17, 200, 82, 83, 84, 16, 85, 86, 201, 202, 203, 204, 205, 206, 207, 208, 209, 210, 211, 212, 213, 214, 215, 216, 26, 715, 716, 717, 718, 719, 720, 721, 722, 723, 682, 683, 684, 685, 686, 712, 713, 714] (by decide +kernel) (by decide +kernel)) (goodIn_sub (fun _ h => List.mem_append_right _ h) (by decide +kernel))
set_option maxRecDepth 20000 in
theorem gL_law_L_isLoose : GoodIn wsL_law (va_wsS RL 106 yL_isLoose wsL_isLoose) := goodIn_app (goodIn_of _ (by decide +kernel)) ggL_law_L_isLoose
set_option maxRecDepth 20000 in
theorem ggL_law_X4_isLoose : GoodIn wsL_law wsX4_isLoose := goodIn_r _ [258, 46, 225, 226, 227, 5, 228, 164, 165, 166, 167, 175, 176, 177, 178, 179, 687, 688, 689, 690, 691, 692, 693, 694, 695, 696, 697, 698, 699, 700, 701, 702, 703, 704, 705, 706, 707, 708, 709, 710, 711] (by decide +kernel) (by decide +kernel)
set_option maxRecDepth 20000 in
theorem gL_law_X4_isLoose : GoodIn wsL_law (wsV RL 108 RX4 yX4_isLoose wsX4_isLoose) := goodIn_app (goodIn_of _ (by decide +kernel)) ggL_law_X4_isLoose
set_option maxRecDepth 20000 in
theorem ggL_law_L_canRead : GoodIn wsL_law wsL_canRead := goodIn_ca (goodIn_r _ [261, 187, 262, 263, 264, 2, 265, 194, 195, 196, 197, 198, 199, 17, 200, 82, 83, 84, 16, 85, 86, 201, 202, 203, 204, 205, 206, 207, 208, 209, 210, 211, 212, 213, 214, 215, 216, 26, 266, 267, 268, 76, 269, 96, 97, 270, 271, 272, 273, 98, 274, 275, 276, 277, 278, 279, 682, 683, 684, 685, 686, 712, 713, 714, 715, 716, 717, 718, 719, 720, 721, 722, 723, 724, 725, 726, 727, 728] (by decide +kernel) (by decide +kernel)) (goodIn_sub (fun _ h => List.mem_append_right _ h) (by decide +kernel))
set_option maxRecDepth 20000 in
theorem gL_law_L_canRead : GoodIn wsL_law (va_wsS RL 109 yL_canRead wsL_canRead) := goodIn_app (goodIn_of _ (by decide +kernel)) ggL_law_L_canRead
set_option maxRecDepth 20000 in
theorem ggL_law_X4_canRead : GoodIn wsL_law wsX4_canRead := goodIn_r _ [283, 225, 226, 227, 5, 228, 164, 165, 166, 167, 175, 176, 177, 178, 179, 284, 285, 286, 287, 45, 46, 288, 289, 290, 291, 47, 48, 49, 687, 688, 689, 690, 691, 692, 693, 694, 695, 696, 697, 698, 699, 700, 701, 702, 703, 704, 705, 706, 707, 708, 709, 710, 711] (by decide +kernel) (by decide +kernel)
set_option maxRecDepth 20000 in
theorem gL_law_X4_canRead : GoodIn wsL_law (wsV RL 111 RX4 yX4_canRead wsX4_canRead) := goodIn_app (goodIn_of _ (by decide +kernel)) ggL_law_X4_canRead
set_option maxRecDepth 20000 in
theorem ggL_law_L_read : GoodIn wsL_law wsL_read := goodIn_ca (goodIn_ca (goodIn_r _ [294, 187, 65, 295, 296, 297, 2, 298, 72, 73, 299, 194, 195, 196, 197, 198, 199, 17, 200, 82, 83, 84, 16, 85, 86, 201, 202, 203, 204, 205, 206, 207, 208, 209, 210, 211, 212, 213, 214, 215, 216, 26, 266, 267, 268, 76, 269, 96, 97, 270, 271, 272, 273, 98, 274, 275, 276, 277, 278, 279, 715, 716, 717, 718, 719, 720, 721, 722, 723, 682, 683, 684, 685, 686, 712, 713, 714, 724, 725, 726, 727, 728] (by decide +kernel) (by decide +kernel)) (goodIn_sub (fun _ h => List.mem_append_left _ (List.mem_append_right _ h)) (by decide +kernel))) (goodIn_sub (fun _ h => List.mem_append_right _ h) (by decide +kernel))
set_option maxRecDepth 20000 in
theorem gL_law_L_read : GoodIn wsL_law (va_wsS RL 112 yL_read wsL_read) := goodIn_app (goodIn_of _ (by decide +kernel)) ggL_law_L_read
set_option maxRecDepth 20000 in
theorem ggL_law_X4_read : GoodIn wsL_law wsX4_read := goodIn_r _ [303, 43, 225, 226, 227, 5, 228, 164, 165, 166, 167, 284, 285, 286, 287, 45, 46, 288, 289, 290, 291, 47, 48, 49, 175, 176, 177, 178, 179, 687, 688, 689, 690, 691, 692, 693, 694, 695, 696, 697, 698, 699, 700, 701, 702, 703, 704, 705, 706, 707, 708, 709, 710, 711] (by decide +kernel) (by decide +kernel)
set_option maxRecDepth 20000 in
theorem gL_law_X4_read : GoodIn wsL_law (wsV RL 114 RX4 yX4_read wsX4_read) := goodIn_app (goodIn_of _ (by decide +kernel)) ggL_law_X4_read
set_option maxRecDepth 20000 in
theorem ggL_law_L_pack : GoodIn wsL_law wsL_pack := goodIn_ca (goodIn_r _ [306, 64, 307, 308, 309, 2, 310, 70, 71, 20, 21, 18, 200, 311, 312, 313, 314, 315, 17, 316, 317, 318, 16, 319, 112, 113, 26, 86, 82, 83, 84, 85, 201, 202, 203, 204, 205, 206, 207, 208, 209, 210, 211, 212, 213, 214, 215, 216, 266, 267, 268, 76, 269, 96, 97, 270, 271, 272, 273, 98, 274, 275, 276, 277, 278, 279, 320, 321, 322, 323, 324, 325, 326, 327, 328, 329, 330, 331, 332, 333, 334, 157, 158, 159, 335, 336, 337, 338, 118, 119, 120, 121, 122, 123, 124, 125, 25, 126, 127, 128, 129, 130, 131, 132, 133, 134, 135, 136, 137, 138, 139, 140, 141, 142, 143, 144, 145, 146, 147, 148, 149, 150, 151, 152, 153, 154, 155, 156, 339, 340, 341, 342, 343, 344, 345, 346, 347, 348, 349, 350, 351, 352, 353, 354, 355, 356, 357, 358, 359, 12, 13, 360, 361, 362, 363, 364, 365, 366, 367, 368, 369, 370, 371, 372, 373, 374, 375, 376, 377, 378, 379, 380, 381, 382, 383, 384, 385, 386, 93, 94, 106, 107, 387, 388, 389, 390, 19, 391, 392, 393, 394, 395, 396, 397, 398, 399, 400, 401, 402, 682, 683, 684, 685, 686, 715, 716, 717, 718, 719, 720, 721, 722, 723, 712, 713, 714, 724, 725, 726, 727, 728] (by decide +kernel) (by decide +kernel)) (goodIn_sub (fun _ h => List.mem_append_left _ (List.mem_append_left _ (List.mem_append_right _ h))) (by decide +kernel))
set_option maxRecDepth 20000 in
theorem gL_law_L_pack : GoodIn wsL_law (va_wsS RL 115 yL_pack wsL_pack) := goodIn_app (goodIn_of _ (by decide +kernel)) ggL_law_L_pack
set_option maxRecDepth 20000 in
theorem ggL_law_X4_pack : GoodIn wsL_law wsX4_pack := goodIn_r _ [406, 407, 408, 409, 53, 55, 56, 164, 47, 165, 166, 5, 167, 175, 176, 177, 178, 179, 410, 411, 412, 413, 54, 284, 285, 286, 287, 45, 46, 288, 289, 290, 291, 48, 49, 414, 415, 416, 417, 43, 42, 172, 173, 174, 171, 418, 419, 420, 421, 422, 423, 424, 425, 426, 427, 428, 429, 57, 58, 430, 431, 432, 433, 434, 435, 436, 437, 438, 439, 440, 441, 442, 443, 444, 445, 446, 447, 52, 50, 51, 448, 449, 450, 451, 687, 688, 689, 690, 691, 692, 693, 694, 695, 696, 697, 698, 699, 700, 701, 702, 703, 704, 705, 706, 707, 708, 709, 710, 711] (by decide +kernel) (by decide +kernel)
set_option maxRecDepth 20000 in
theorem gL_law_X4_pack : GoodIn wsL_law (wsV RL 118 RX4 yX4_pack wsX4_pack) := goodIn_app (goodIn_of _ (by decide +kernel)) ggL_law_X4_pack
set_option maxRecDepth 20000 in
theorem ggL_law_X3_prune : GoodIn wsL_law wsX3_prune := goodIn_r _ [455, 17, 200, 193, 82, 83, 84, 16, 85, 86, 201, 202, 203, 204, 205, 206, 207, 208, 209, 210, 211, 212, 213, 214, 215, 216, 26, 456, 271, 272, 76, 273, 98, 274, 275, 276, 277, 278, 279, 682, 683, 684, 685, 686, 715, 716, 717, 718, 719, 720, 721, 722, 723, 712, 713, 714, 724, 725, 726, 727, 728] (by decide +kernel) (by decide +kernel)
set_option maxRecDepth 20000 in
theorem gL_law_X3_prune : GoodIn wsL_law (wsV RL 119 RX3 yX3_prune wsX3_prune) := goodIn_app (goodIn_of _ (by decide +kernel)) ggL_law_X3_prune
set_option maxRecDepth 20000 in
theorem ggL_law_X4_prune : GoodIn wsL_law wsX4_prune := goodIn_r _ [460, 179, 164, 46, 288, 289, 290, 5, 291, 47, 48, 49, 687, 688, 689, 690, 691, 692, 693, 694, 695, 696, 697, 698, 699, 700, 701, 702, 703, 704, 705, 706, 707, 708, 709, 710, 711] (by decide +kernel) (by decide +kernel)
set_option maxRecDepth 20000 in
theorem gL_law_X4_prune : GoodIn wsL_law (wsV RL 122 RX4 yX4_prune wsX4_prune) := goodIn_app (goodIn_of _ (by decide +kernel)) ggL_law_X4_prune
set_option maxRecDepth 20000 in
theorem ggL_law_L_damage : GoodIn wsL_law wsL_damage := goodIn_ca (goodIn_ca (goodIn_r _ [463, 187, 65, 464, 465, 466, 2, 467, 72, 73, 349, 468, 469, 470, 471, 311, 194, 195, 196, 197, 198, 199, 17, 200, 82, 83, 84, 16, 85, 86, 201, 202, 203, 204, 205, 206, 207, 208, 209, 210, 211, 212, 213, 214, 215, 216, 26, 472, 473, 474, 475, 18, 456, 271, 272, 76, 273, 98, 274, 275, 276, 277, 278, 279, 724, 725, 726, 727, 728, 715, 716, 717, 718, 719, 720, 721, 722, 723, 682, 683, 684, 685, 686, 712, 713, 714] (by decide +kernel) (by decide +kernel)) (goodIn_sub (fun _ h => List.mem_append_left _ (List.mem_append_right _ h)) (by decide +kernel))) (goodIn_sub (fun _ h => List.mem_append_right _ h) (by decide +kernel))
set_option maxRecDepth 20000 in
theorem gL_law_L_damage : GoodIn wsL_law (va_wsS RL 123 yL_damage wsL_damage) := goodIn_app (goodIn_of _ (by decide +kernel)) ggL_law_L_damage
set_option maxRecDepth 20000 in
theorem ggL_law_X4_damage : GoodIn wsL_law wsX4_damage := goodIn_r _ [479, 47, 48, 225, 226, 227, 5, 228, 164, 165, 166, 167, 175, 176, 177, 178, 179, 480, 481, 482, 483, 288, 289, 290, 291, 49, 687, 688, 689, 690, 691, 692, 693, 694, 695, 696, 697, 698, 699, 700, 701, 702, 703, 704, 705, 706, 707, 708, 709, 710, 711] (by decide +kernel) (by decide +kernel)
set_option maxRecDepth 20000 in
theorem gL_law_X4_damage : GoodIn wsL_law (wsV RL 125 RX4 yX4_damage wsX4_damage) := goodIn_app (goodIn_of _ (by decide +kernel)) ggL_law_X4_damage
set_option maxRecDepth 20000 in
theorem ggL_law_X3_compared : GoodIn wsL_law wsX3_compared := goodIn_r _ [487, 20, 682, 683, 684, 685, 686] (by decide +kernel) (by decide +kernel)
set_option maxRecDepth 20000 in
theorem gL_law_X3_compared : GoodIn wsL_law (wsV RL 126 RX3 yX3_compared wsX3_compared) := goodIn_app (goodIn_of _ (by decide +kernel)) ggL_law_X3_compared
set_option maxRecDepth 20000 in
theorem ggL_law_X4_compared : GoodIn wsL_law wsX4_compared := goodIn_r _ [491, 179, 407, 687, 688, 689, 690, 691, 692, 693, 694, 695, 696, 697, 698, 699, 700, 701, 702, 703, 704, 705, 706, 707, 708, 709, 710, 711] (by decide +kernel) (by decide +kernel)
set_option maxRecDepth 20000 in
theorem gL_law_X4_compared : GoodIn wsL_law (wsV RL 129 RX4 yX4_compared wsX4_compared) := goodIn_app (goodIn_of _ (by decide +kernel)) ggL_law_X4_compared
set_option maxRecDepth 20000 in
theorem ggL_law_X3_reused : GoodIn wsL_law wsX3_reused := goodIn_r _ [495, 21, 682, 683, 684, 685, 686] (by decide +kernel) (by decide +kernel)
set_option maxRecDepth 20000 in
theorem gL_law_X3_reused : GoodIn wsL_law (wsV RL 130 RX3 yX3_reused wsX3_reused) := goodIn_app (goodIn_of _ (by decide +kernel)) ggL_law_X3_reused
set_option maxRecDepth 20000 in
theorem ggL_law_X4_reused : GoodIn wsL_law wsX4_reused := goodIn_r _ [499, 179, 408, 687, 688, 689, 690, 691, 692, 693, 694, 695, 696, 697, 698, 699, 700, 701, 702, 703, 704, 705, 706, 707, 708, 709, 710, 711] (by decide +kernel) (by decide +kernel)
set_option maxRecDepth 20000 in
theorem gL_law_X4_reused : GoodIn wsL_law (wsV RL 133 RX4 yX4_reused wsX4_reused) := goodIn_app (goodIn_of _ (by decide +kernel)) ggL_law_X4_reused
set_option maxRecDepth 20000 in
theorem ggL_law_X3_forms : GoodIn wsL_law wsX3_forms := goodIn_r _ [503, 18, 82, 83, 84, 16, 85, 86, 682, 683, 684, 685, 686, 712, 713, 714] (by decide +kernel) (by decide +kernel)
set_option maxRecDepth 20000 in
theorem gL_law_X3_forms : GoodIn wsL_law (wsV RL 134 RX3 yX3_forms wsX3_forms) := goodIn_app (goodIn_of _ (by decide +kernel)) ggL_law_X3_forms
set_option maxRecDepth 20000 in
theorem ggL_law_X4_forms_ : GoodIn wsL_law wsX4_forms_ := goodIn_r _ [507, 179, 164, 47, 687, 688, 689, 690, 691, 692, 693, 694, 695, 696, 697, 698, 699, 700, 701, 702, 703, 704, 705, 706, 707, 708, 709, 710, 711] (by decide +kernel) (by decide +kernel)
set_option maxRecDepth 20000 in
theorem gL_law_X4_forms_ : GoodIn wsL_law (wsV RL 137 RX4 yX4_forms_ wsX4_forms_) := goodIn_app (goodIn_of _ (by decide +kernel)) ggL_law_X4_forms_
set_option maxRecDepth 20000 in
theorem ggL_law_X3_cost : GoodIn wsL_law wsX3_cost := goodIn_r _ [402, 18, 200, 311, 355, 82, 83, 84, 16, 85, 86, 201, 202, 203, 204, 205, 206, 207, 208, 209, 210, 211, 212, 213, 214, 215, 216, 26, 682, 683, 684, 685, 686, 715, 716, 717, 718, 719, 720, 721, 722, 723, 724, 725, 726, 727, 728, 712, 713, 714] (by decide +kernel) (by decide +kernel)
set_option maxRecDepth 20000 in
theorem gL_law_X3_cost : GoodIn wsL_law (wsV RL 138 RX3 yX3_cost wsX3_cost) := goodIn_app (goodIn_of _ (by decide +kernel)) ggL_law_X3_cost
set_option maxRecDepth 20000 in
theorem ggL_law_X4_cost : GoodIn wsL_law wsX4_cost := goodIn_r _ [512, 179, 448, 449, 450, 5, 451, 164, 47, 50, 687, 688, 689, 690, 691, 692, 693, 694, 695, 696, 697, 698, 699, 700, 701, 702, 703, 704, 705, 706, 707, 708, 709, 710, 711] (by decide +kernel) (by decide +kernel)
set_option maxRecDepth 20000 in
theorem gL_law_X4_cost : GoodIn wsL_law (wsV RL 141 RX4 yX4_cost wsX4_cost) := goodIn_app (goodIn_of _ (by decide +kernel)) ggL_law_X4_cost
set_option maxRecDepth 20000 in
theorem ggL_law_L_costOf : GoodIn wsL_law wsL_costOf := goodIn_ca (goodIn_ca (goodIn_r _ [515, 187, 65, 516, 517, 518, 2, 519, 355, 468, 469, 470, 471, 72, 73, 311, 194, 195, 196, 197, 198, 199, 17, 200, 82, 83, 84, 16, 85, 86, 201, 202, 203, 204, 205, 206, 207, 208, 209, 210, 211, 212, 213, 214, 215, 216, 26, 724, 725, 726, 727, 728, 715, 716, 717, 718, 719, 720, 721, 722, 723, 682, 683, 684, 685, 686, 712, 713, 714] (by decide +kernel) (by decide +kernel)) (goodIn_sub (fun _ h => List.mem_append_left _ (List.mem_append_right _ h)) (by decide +kernel))) (goodIn_sub (fun _ h => List.mem_append_right _ h) (by decide +kernel))
set_option maxRecDepth 20000 in
theorem gL_law_L_costOf : GoodIn wsL_law (va_wsS RL 142 yL_costOf wsL_costOf) := goodIn_app (goodIn_of _ (by decide +kernel)) ggL_law_L_costOf
set_option maxRecDepth 20000 in
theorem ggL_law_X4_costOf : GoodIn wsL_law wsX4_costOf := goodIn_r _ [523, 50, 524, 525, 526, 5, 527, 47, 225, 226, 227, 228, 164, 165, 166, 167, 175, 176, 177, 178, 179, 687, 688, 689, 690, 691, 692, 693, 694, 695, 696, 697, 698, 699, 700, 701, 702, 703, 704, 705, 706, 707, 708, 709, 710, 711] (by decide +kernel) (by decide +kernel)
set_option maxRecDepth 20000 in
theorem gL_law_X4_costOf : GoodIn wsL_law (wsV RL 144 RX4 yX4_costOf wsX4_costOf) := goodIn_app (goodIn_of _ (by decide +kernel)) ggL_law_X4_costOf
set_option maxRecDepth 20000 in
theorem ggL_law_L_base : GoodIn wsL_law wsL_base := goodIn_ca (goodIn_ca (goodIn_r _ [530, 187, 65, 531, 532, 533, 2, 534, 348, 329, 468, 469, 470, 471, 72, 73, 311, 194, 195, 196, 197, 198, 199, 17, 200, 82, 83, 84, 16, 85, 86, 201, 202, 203, 204, 205, 206, 207, 208, 209, 210, 211, 212, 213, 214, 215, 216, 26, 724, 725, 726, 727, 728, 715, 716, 717, 718, 719, 720, 721, 722, 723, 682, 683, 684, 685, 686, 712, 713, 714] (by decide +kernel) (by decide +kernel)) (goodIn_sub (fun _ h => List.mem_append_left _ (List.mem_append_right _ h)) (by decide +kernel))) (goodIn_sub (fun _ h => List.mem_append_right _ h) (by decide +kernel))
set_option maxRecDepth 20000 in
theorem gL_law_L_base : GoodIn wsL_law (va_wsS RL 145 yL_base wsL_base) := goodIn_app (goodIn_of _ (by decide +kernel)) ggL_law_L_base
set_option maxRecDepth 20000 in
theorem ggL_law_X4_base : GoodIn wsL_law wsX4_base := goodIn_r _ [538, 49, 524, 525, 526, 5, 527, 47, 225, 226, 227, 228, 164, 165, 166, 167, 175, 176, 177, 178, 179, 687, 688, 689, 690, 691, 692, 693, 694, 695, 696, 697, 698, 699, 700, 701, 702, 703, 704, 705, 706, 707, 708, 709, 710, 711] (by decide +kernel) (by decide +kernel)
set_option maxRecDepth 20000 in
theorem gL_law_X4_base : GoodIn wsL_law (wsV RL 147 RX4 yX4_base wsX4_base) := goodIn_app (goodIn_of _ (by decide +kernel)) ggL_law_X4_base
set_option maxRecDepth 20000 in
theorem ggL_law_L_depth : GoodIn wsL_law wsL_depth := goodIn_ca (goodIn_ca (goodIn_r _ [541, 187, 65, 542, 543, 544, 2, 545, 350, 468, 469, 470, 471, 72, 73, 311, 194, 195, 196, 197, 198, 199, 17, 200, 82, 83, 84, 16, 85, 86, 201, 202, 203, 204, 205, 206, 207, 208, 209, 210, 211, 212, 213, 214, 215, 216, 26, 724, 725, 726, 727, 728, 715, 716, 717, 718, 719, 720, 721, 722, 723, 682, 683, 684, 685, 686, 712, 713, 714] (by decide +kernel) (by decide +kernel)) (goodIn_sub (fun _ h => List.mem_append_left _ (List.mem_append_right _ h)) (by decide +kernel))) (goodIn_sub (fun _ h => List.mem_append_right _ h) (by decide +kernel))
set_option maxRecDepth 20000 in
theorem gL_law_L_depth : GoodIn wsL_law (va_wsS RL 148 yL_depth wsL_depth) := goodIn_app (goodIn_of _ (by decide +kernel)) ggL_law_L_depth
set_option maxRecDepth 20000 in
theorem ggL_law_X4_depth : GoodIn wsL_law wsX4_depth := goodIn_r _ [549, 52, 524, 525, 526, 5, 527, 47, 225, 226, 227, 228, 164, 165, 166, 167, 175, 176, 177, 178, 179, 687, 688, 689, 690, 691, 692, 693, 694, 695, 696, 697, 698, 699, 700, 701, 702, 703, 704, 705, 706, 707, 708, 709, 710, 711] (by decide +kernel) (by decide +kernel)
set_option maxRecDepth 20000 in
theorem gL_law_X4_depth : GoodIn wsL_law (wsV RL 150 RX4 yX4_depth wsX4_depth) := goodIn_app (goodIn_of _ (by decide +kernel)) ggL_law_X4_depth
set_option maxRecDepth 20000 in
theorem ggL_law_L_parts : GoodIn wsL_law wsL_parts := goodIn_ca (goodIn_ca (goodIn_r _ [552, 187, 65, 553, 554, 555, 2, 556, 354, 468, 469, 470, 471, 72, 73, 311, 194, 195, 196, 197, 198, 199, 17, 200, 82, 83, 84, 16, 85, 86, 201, 202, 203, 204, 205, 206, 207, 208, 209, 210, 211, 212, 213, 214, 215, 216, 26, 724, 725, 726, 727, 728, 715, 716, 717, 718, 719, 720, 721, 722, 723, 682, 683, 684, 685, 686, 712, 713, 714] (by decide +kernel) (by decide +kernel)) (goodIn_sub (fun _ h => List.mem_append_left _ (List.mem_append_right _ h)) (by decide +kernel))) (goodIn_sub (fun _ h => List.mem_append_right _ h) (by decide +kernel))
set_option maxRecDepth 20000 in
theorem gL_law_L_parts : GoodIn wsL_law (va_wsS RL 151 yL_parts wsL_parts) := goodIn_app (goodIn_of _ (by decide +kernel)) ggL_law_L_parts
set_option maxRecDepth 20000 in
theorem ggL_law_X4_parts : GoodIn wsL_law wsX4_parts := goodIn_r _ [560, 51, 524, 525, 526, 5, 527, 47, 225, 226, 227, 228, 164, 165, 166, 167, 175, 176, 177, 178, 179, 687, 688, 689, 690, 691, 692, 693, 694, 695, 696, 697, 698, 699, 700, 701, 702, 703, 704, 705, 706, 707, 708, 709, 710, 711] (by decide +kernel) (by decide +kernel)
set_option maxRecDepth 20000 in
theorem gL_law_X4_parts : GoodIn wsL_law (wsV RL 153 RX4 yX4_parts wsX4_parts) := goodIn_app (goodIn_of _ (by decide +kernel)) ggL_law_X4_parts
set_option maxRecDepth 20000 in
theorem ggL_law_L_dependents : GoodIn wsL_law wsL_dependents := goodIn_ca (goodIn_ca (goodIn_r _ [563, 187, 65, 564, 565, 566, 2, 567, 72, 73, 311, 18, 200, 194, 195, 196, 197, 198, 199, 17, 82, 83, 84, 16, 85, 86, 201, 202, 203, 204, 205, 206, 207, 208, 209, 210, 211, 212, 213, 214, 215, 216, 26, 568, 569, 570, 76, 571, 275, 276, 277, 278, 98, 279, 715, 716, 717, 718, 719, 720, 721, 722, 723, 682, 683, 684, 685, 686, 712, 713, 714, 724, 725, 726, 727, 728] (by decide +kernel) (by decide +kernel)) (goodIn_sub (fun _ h => List.mem_append_left _ (List.mem_append_right _ h)) (by decide +kernel))) (goodIn_sub (fun _ h => List.mem_append_right _ h) (by decide +kernel))
set_option maxRecDepth 20000 in
theorem gL_law_L_dependents : GoodIn wsL_law (va_wsS RL 154 yL_dependents wsL_dependents) := goodIn_app (goodIn_of _ (by decide +kernel)) ggL_law_L_dependents
set_option maxRecDepth 20000 in
theorem ggL_law_X4_dependents : GoodIn wsL_law wsX4_dependents := goodIn_r _ [575, 164, 47, 49, 524, 525, 526, 5, 527, 225, 226, 227, 228, 165, 166, 167, 175, 176, 177, 178, 179, 687, 688, 689, 690, 691, 692, 693, 694, 695, 696, 697, 698, 699, 700, 701, 702, 703, 704, 705, 706, 707, 708, 709, 710, 711] (by decide +kernel) (by decide +kernel)
set_option maxRecDepth 20000 in
theorem gL_law_X4_dependents : GoodIn wsL_law (wsV RL 156 RX4 yX4_dependents wsX4_dependents) := goodIn_app (goodIn_of _ (by decide +kernel)) ggL_law_X4_dependents
set_option maxRecDepth 20000 in
theorem ggL_law_L_deltaCost : GoodIn wsL_law wsL_deltaCost := goodIn_ca (goodIn_r _ [578, 187, 579, 580, 581, 2, 582, 194, 195, 196, 197, 198, 199, 17, 200, 82, 83, 84, 16, 85, 86, 201, 202, 203, 204, 205, 206, 207, 208, 209, 210, 211, 212, 213, 214, 215, 216, 26, 370, 371, 372, 373, 374, 375, 328, 376, 377, 378, 379, 127, 128, 129, 380, 381, 382, 369, 154, 155, 383, 384, 385, 76, 386, 93, 94, 106, 107, 682, 683, 684, 685, 686, 712, 713, 714, 715, 716, 717, 718, 719, 720, 721, 722, 723] (by decide +kernel) (by decide +kernel)) (goodIn_sub (fun _ h => List.mem_append_right _ h) (by decide +kernel))
set_option maxRecDepth 20000 in
theorem gL_law_L_deltaCost : GoodIn wsL_law (va_wsS RL 157 yL_deltaCost wsL_deltaCost) := goodIn_app (goodIn_of _ (by decide +kernel)) ggL_law_L_deltaCost
set_option maxRecDepth 20000 in
theorem ggL_law_X4_deltaCost : GoodIn wsL_law wsX4_deltaCost := goodIn_r _ [586, 43, 225, 226, 227, 5, 228, 164, 165, 166, 167, 175, 176, 177, 178, 179, 426, 427, 428, 429, 57, 58, 430, 431, 432, 433, 434, 435, 172, 173, 174, 171, 436, 437, 438, 439, 440, 441, 442, 443, 687, 688, 689, 690, 691, 692, 693, 694, 695, 696, 697, 698, 699, 700, 701, 702, 703, 704, 705, 706, 707, 708, 709, 710, 711] (by decide +kernel) (by decide +kernel)
set_option maxRecDepth 20000 in
theorem gL_law_X4_deltaCost : GoodIn wsL_law (wsV RL 160 RX4 yX4_deltaCost wsX4_deltaCost) := goodIn_app (goodIn_of _ (by decide +kernel)) ggL_law_X4_deltaCost
set_option maxRecDepth 20000 in
theorem ggL_law_L_hash : GoodIn wsL_law wsL_hash := goodIn_ca (goodIn_r _ [589, 64, 590, 591, 592, 2, 593, 70, 71, 77, 78, 79, 80, 81, 594, 102, 103, 104, 100, 101, 105, 106, 107] (by decide +kernel) (by decide +kernel)) (goodIn_sub (fun _ h => List.mem_append_left _ (List.mem_append_left _ (List.mem_append_right _ h))) (by decide +kernel))
set_option maxRecDepth 20000 in
theorem gL_law_L_hash : GoodIn wsL_law (va_wsS RL 161 yL_hash wsL_hash) := goodIn_app (goodIn_of _ (by decide +kernel)) ggL_law_L_hash
set_option maxRecDepth 20000 in
theorem ggL_law_X4_hash : GoodIn wsL_law wsX4_hash := goodIn_r _ [598, 168, 169, 5, 170, 171, 172, 173, 174, 175, 176, 177, 178, 179, 599, 600, 601, 435, 687, 688, 689, 690, 691, 692, 693, 694, 695, 696, 697, 698, 699, 700, 701, 702, 703, 704, 705, 706, 707, 708, 709, 710, 711] (by decide +kernel) (by decide +kernel)
set_option maxRecDepth 20000 in
theorem gL_law_X4_hash : GoodIn wsL_law (wsV RL 164 RX4 yX4_hash wsX4_hash) := goodIn_app (goodIn_of _ (by decide +kernel)) ggL_law_X4_hash
set_option maxRecDepth 20000 in
theorem ggL_law_L_indexAt : GoodIn wsL_law wsL_indexAt := goodIn_ca (goodIn_r _ [604, 187, 605, 606, 607, 2, 608, 198, 199, 19, 200, 329, 82, 83, 84, 16, 85, 86, 201, 202, 203, 204, 205, 206, 207, 208, 209, 210, 211, 212, 213, 214, 215, 216, 26, 682, 683, 684, 685, 686, 715, 716, 717, 718, 719, 720, 721, 722, 723, 712, 713, 714] (by decide +kernel) (by decide +kernel)) (goodIn_sub (fun _ h => List.mem_append_right _ h) (by decide +kernel))
set_option maxRecDepth 20000 in
theorem gL_law_L_indexAt : GoodIn wsL_law (va_wsS RL 165 yL_indexAt wsL_indexAt) := goodIn_app (goodIn_of _ (by decide +kernel)) ggL_law_L_indexAt
set_option maxRecDepth 20000 in
theorem ggL_law_X4_indexAt : GoodIn wsL_law wsX4_indexAt := goodIn_r _ [612, 59, 613, 614, 615, 5, 616, 164, 47, 43, 599, 600, 601, 435, 172, 173, 174, 171, 165, 166, 167, 175, 176, 177, 178, 179, 687, 688, 689, 690, 691, 692, 693, 694, 695, 696, 697, 698, 699, 700, 701, 702, 703, 704, 705, 706, 707, 708, 709, 710, 711] (by decide +kernel) (by decide +kernel)
set_option maxRecDepth 20000 in
theorem gL_law_X4_indexAt : GoodIn wsL_law (wsV RL 167 RX4 yX4_indexAt wsX4_indexAt) := goodIn_app (goodIn_of _ (by decide +kernel)) ggL_law_X4_indexAt
set_option maxRecDepth 20000 in
theorem ggL_law_L_fanOut : GoodIn wsL_law wsL_fanOut := goodIn_ca (goodIn_r _ [619, 64, 620, 621, 622, 2, 623, 70, 71, 624, 625, 626, 627, 19, 200, 398, 82, 83, 84, 16, 85, 86, 201, 202, 203, 204, 205, 206, 207, 208, 209, 210, 211, 212, 213, 214, 215, 216, 26, 682, 683, 684, 685, 686, 715, 716, 717, 718, 719, 720, 721, 722, 723, 712, 713, 714] (by decide +kernel) (by decide +kernel)) (goodIn_sub (fun _ h => List.mem_append_left _ (List.mem_append_left _ (List.mem_append_right _ h))) (by decide +kernel))
set_option maxRecDepth 20000 in
theorem gL_law_L_fanOut : GoodIn wsL_law (va_wsS RL 168 yL_fanOut wsL_fanOut) := goodIn_app (goodIn_of _ (by decide +kernel)) ggL_law_L_fanOut
set_option maxRecDepth 20000 in
theorem ggL_law_X4_fanOut : GoodIn wsL_law wsX4_fanOut := goodIn_r _ [631, 165, 166, 5, 167, 175, 176, 177, 178, 179, 632, 633, 634, 635, 164, 47, 43, 599, 600, 601, 435, 172, 173, 174, 171, 687, 688, 689, 690, 691, 692, 693, 694, 695, 696, 697, 698, 699, 700, 701, 702, 703, 704, 705, 706, 707, 708, 709, 710, 711] (by decide +kernel) (by decide +kernel)
set_option maxRecDepth 20000 in
theorem gL_law_X4_fanOut : GoodIn wsL_law (wsV RL 170 RX4 yX4_fanOut wsX4_fanOut) := goodIn_app (goodIn_of _ (by decide +kernel)) ggL_law_X4_fanOut
set_option maxRecDepth 20000 in
theorem ggL_law_L_find : GoodIn wsL_law wsL_find := goodIn_ca (goodIn_r _ [638, 64, 639, 640, 641, 2, 642, 643, 329, 644, 645, 646, 647, 70, 71, 648, 649, 650, 19, 200, 651, 398, 652, 653, 654, 655, 12, 13, 656, 657, 624, 625, 626, 627, 82, 83, 84, 16, 85, 86, 201, 202, 203, 204, 205, 206, 207, 208, 209, 210, 211, 212, 213, 214, 215, 216, 26, 729, 730, 715, 716, 717, 718, 719, 720, 721, 722, 723, 682, 683, 684, 685, 686, 712, 713, 714] (by decide +kernel) (by decide +kernel)) (goodIn_sub (fun _ h => List.mem_append_left _ (List.mem_append_left _ (List.mem_append_right _ h))) (by decide +kernel))
set_option maxRecDepth 20000 in
theorem gL_law_L_find : GoodIn wsL_law (va_wsS RL 171 yL_find wsL_find) := goodIn_app (goodIn_of _ (by decide +kernel)) ggL_law_L_find
set_option maxRecDepth 20000 in
theorem ggL_law_X4_find : GoodIn wsL_law wsX4_find := goodIn_r _ [661, 662, 663, 664, 5, 665, 165, 166, 167, 175, 176, 177, 178, 179, 666, 667, 668, 669, 670, 43, 59, 613, 614, 615, 616, 164, 47, 599, 600, 601, 435, 172, 173, 174, 171, 632, 633, 634, 635, 687, 688, 689, 690, 691, 692, 693, 694, 695, 696, 697, 698, 699, 700, 701, 702, 703, 704, 705, 706, 707, 708, 709, 710, 711] (by decide +kernel) (by decide +kernel)
set_option maxRecDepth 20000 in
theorem gL_law_X4_find : GoodIn wsL_law (wsV RL 173 RX4 yX4_find wsX4_find) := goodIn_app (goodIn_of _ (by decide +kernel)) ggL_law_X4_find
set_option maxRecDepth 20000 in
theorem ggL_law_L_looks : GoodIn wsL_law wsL_looks := goodIn_ca (goodIn_r _ [673, 64, 674, 675, 676, 2, 677, 651, 644, 645, 646, 647, 70, 71, 648, 649, 650, 19, 200, 398, 643, 652, 653, 654, 655, 12, 13, 656, 657, 624, 625, 626, 627, 82, 83, 84, 16, 85, 86, 201, 202, 203, 204, 205, 206, 207, 208, 209, 210, 211, 212, 213, 214, 215, 216, 26, 729, 730, 682, 683, 684, 685, 686, 715, 716, 717, 718, 719, 720, 721, 722, 723, 712, 713, 714] (by decide +kernel) (by decide +kernel)) (goodIn_sub (fun _ h => List.mem_append_left _ (List.mem_append_left _ (List.mem_append_right _ h))) (by decide +kernel))
set_option maxRecDepth 20000 in
theorem gL_law_L_looks : GoodIn wsL_law (va_wsS RL 174 yL_looks wsL_looks) := goodIn_app (goodIn_of _ (by decide +kernel)) ggL_law_L_looks
set_option maxRecDepth 20000 in
theorem ggL_law_X4_looks : GoodIn wsL_law wsX4_looks := goodIn_r _ [681, 670, 662, 663, 664, 5, 665, 165, 166, 167, 175, 176, 177, 178, 179, 666, 667, 668, 669, 43, 59, 613, 614, 615, 616, 164, 47, 599, 600, 601, 435, 172, 173, 174, 171, 632, 633, 634, 635, 687, 688, 689, 690, 691, 692, 693, 694, 695, 696, 697, 698, 699, 700, 701, 702, 703, 704, 705, 706, 707, 708, 709, 710, 711] (by decide +kernel) (by decide +kernel)
set_option maxRecDepth 20000 in
theorem gL_law_X4_looks : GoodIn wsL_law (wsV RL 176 RX4 yX4_looks wsX4_looks) := goodIn_app (goodIn_of _ (by decide +kernel)) ggL_law_X4_looks
