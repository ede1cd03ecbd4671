/-! THE WORDS, THE REST: of the JDK, of nest mates. Written by wip/whole/words2.py -/
theorem ini_J10 : (Cond.initialized RJ10) ∈ gW := gW_mem 79 (by decide +kernel) (by decide +kernel)
theorem ini_J9 : (Cond.initialized RJ9) ∈ gW := gW_mem 85 (by decide +kernel) (by decide +kernel)
theorem ini_J0 : (Cond.initialized RJ0) ∈ gW := gW_mem 86 (by decide +kernel) (by decide +kernel)
theorem ini_J1 : (Cond.initialized RJ1) ∈ gW := gW_mem 87 (by decide +kernel) (by decide +kernel)
theorem ini_J3 : (Cond.initialized RJ3) ∈ gW := gW_mem 88 (by decide +kernel) (by decide +kernel)
theorem ini_J2 : (Cond.initialized RJ2) ∈ gW := gW_mem 89 (by decide +kernel) (by decide +kernel)
theorem st_arraycopy : (Cond.static arraycopyName) ∈ gW := gW_mem 375 (by decide +kernel) (by decide +kernel)
theorem na_arraycopy : (Cond.native arraycopyName) ∈ gW := gW_mem 376 (by decide +kernel) (by decide +kernel)
theorem st_J9_max_7cf53 : (Cond.static yJ9_max_7cf53) ∈ gW := gW_mem 477 (by decide +kernel) (by decide +kernel)
theorem co_J9_max_7cf53 : (Cond.code yJ9_max_7cf53 cJ9_max_7cf53 2 (Option.some FieldType.int)) ∈ gW := gW_mem 478 (by decide +kernel) (by decide +kernel)
theorem st_J9_min_7cf53 : (Cond.static yJ9_min_7cf53) ∈ gW := gW_mem 484 (by decide +kernel) (by decide +kernel)
theorem co_J9_min_7cf53 : (Cond.code yJ9_min_7cf53 cJ9_min_7cf53 2 (Option.some FieldType.int)) ∈ gW := gW_mem 485 (by decide +kernel) (by decide +kernel)
theorem st_J9_abs_0f7a4 : (Cond.static yJ9_abs_0f7a4) ∈ gW := gW_mem 491 (by decide +kernel) (by decide +kernel)
theorem co_J9_abs_0f7a4 : (Cond.code yJ9_abs_0f7a4 cJ9_abs_0f7a4 1 (Option.some FieldType.int)) ∈ gW := gW_mem 492 (by decide +kernel) (by decide +kernel)
theorem st_J9_floorMod_7cf53 : (Cond.static yJ9_floorMod_7cf53) ∈ gW := gW_mem 518 (by decide +kernel) (by decide +kernel)
theorem co_J9_floorMod_7cf53 : (Cond.code yJ9_floorMod_7cf53 cJ9_floorMod_7cf53 3 (Option.some FieldType.int)) ∈ gW := gW_mem 519 (by decide +kernel) (by decide +kernel)
theorem im_J0_length_8abf5 : (Cond.instanceMethod yJ0_length_8abf5) ∈ gW := gW_mem 655 (by decide +kernel) (by decide +kernel)
theorem se_J0_length_8abf5 : (Cond.selects yJ0_length_8abf5.cls yJ0_length_8abf5 yJ0_length_8abf5) ∈ gW := gW_mem 656 (by decide +kernel) (by decide +kernel)
theorem co_J0_length_8abf5 : (Cond.code yJ0_length_8abf5 cJ0_length_8abf5 1 (Option.some FieldType.int)) ∈ gW := gW_mem 657 (by decide +kernel) (by decide +kernel)
theorem ml_J0_335 : (Cond.methodLink RJ0 335 yJ0_coder_7d493) ∈ gW := gW_mem 658 (by decide +kernel) (by decide +kernel)
theorem im_J0_coder_7d493 : (Cond.instanceMethod yJ0_coder_7d493) ∈ gW := gW_mem 659 (by decide +kernel) (by decide +kernel)
theorem se_J0_coder_7d493 : (Cond.selects yJ0_coder_7d493.cls yJ0_coder_7d493 yJ0_coder_7d493) ∈ gW := gW_mem 660 (by decide +kernel) (by decide +kernel)
theorem co_J0_coder_7d493 : (Cond.code yJ0_coder_7d493 cJ0_coder_7d493 1 (Option.some FieldType.byte)) ∈ gW := gW_mem 661 (by decide +kernel) (by decide +kernel)
theorem fl_J0_38 : (Cond.fieldLink RJ0 38 "java/lang/String" "COMPACT_STRINGS" "Z") ∈ gW := gW_mem 662 (by decide +kernel) (by decide +kernel)
theorem im_J0_charAt_5068e : (Cond.instanceMethod yJ0_charAt_5068e) ∈ gW := gW_mem 665 (by decide +kernel) (by decide +kernel)
theorem se_J0_charAt_5068e : (Cond.selects yJ0_charAt_5068e.cls yJ0_charAt_5068e yJ0_charAt_5068e) ∈ gW := gW_mem 666 (by decide +kernel) (by decide +kernel)
theorem co_J0_charAt_5068e : (Cond.code yJ0_charAt_5068e cJ0_charAt_5068e 2 (Option.some FieldType.char)) ∈ gW := gW_mem 667 (by decide +kernel) (by decide +kernel)
theorem ml_J0_492 : (Cond.methodLink RJ0 492 yJ0_isLatin1_aae02) ∈ gW := gW_mem 668 (by decide +kernel) (by decide +kernel)
theorem im_J0_isLatin1_aae02 : (Cond.instanceMethod yJ0_isLatin1_aae02) ∈ gW := gW_mem 669 (by decide +kernel) (by decide +kernel)
theorem se_J0_isLatin1_aae02 : (Cond.selects yJ0_isLatin1_aae02.cls yJ0_isLatin1_aae02 yJ0_isLatin1_aae02) ∈ gW := gW_mem 670 (by decide +kernel) (by decide +kernel)
theorem co_J0_isLatin1_aae02 : (Cond.code yJ0_isLatin1_aae02 cJ0_isLatin1_aae02 1 (Option.some FieldType.boolean)) ∈ gW := gW_mem 671 (by decide +kernel) (by decide +kernel)
theorem ml_J0_495 : (Cond.methodLink RJ0 495 yJ1_charAt_3b067) ∈ gW := gW_mem 672 (by decide +kernel) (by decide +kernel)
theorem st_J1_charAt_3b067 : (Cond.static yJ1_charAt_3b067) ∈ gW := gW_mem 673 (by decide +kernel) (by decide +kernel)
theorem co_J1_charAt_3b067 : (Cond.code yJ1_charAt_3b067 cJ1_charAt_3b067 2 (Option.some FieldType.char)) ∈ gW := gW_mem 674 (by decide +kernel) (by decide +kernel)
theorem ml_J1_9 : (Cond.methodLink RJ1 9 yJ0_checkIndex_df160) ∈ gW := gW_mem 675 (by decide +kernel) (by decide +kernel)
theorem st_J0_checkIndex_df160 : (Cond.static yJ0_checkIndex_df160) ∈ gW := gW_mem 676 (by decide +kernel) (by decide +kernel)
theorem co_J0_checkIndex_df160 : (Cond.code yJ0_checkIndex_df160 cJ0_checkIndex_df160 2 (Option.none)) ∈ gW := gW_mem 677 (by decide +kernel) (by decide +kernel)
theorem fl_J0_1053 : (Cond.fieldLink RJ0 1053 "jdk/internal/util/Preconditions" "SIOOBE_FORMATTER" "Ljava/util/function/BiFunction;") ∈ gW := gW_mem 678 (by decide +kernel) (by decide +kernel)
theorem ml_J0_1059 : (Cond.methodLink RJ0 1059 yJ3_checkIndex_8e157) ∈ gW := gW_mem 680 (by decide +kernel) (by decide +kernel)
theorem st_J3_checkIndex_8e157 : (Cond.static yJ3_checkIndex_8e157) ∈ gW := gW_mem 681 (by decide +kernel) (by decide +kernel)
theorem co_J3_checkIndex_8e157 : (Cond.code yJ3_checkIndex_8e157 cJ3_checkIndex_8e157 3 (Option.some FieldType.int)) ∈ gW := gW_mem 682 (by decide +kernel) (by decide +kernel)
theorem ml_J0_498 : (Cond.methodLink RJ0 498 yJ2_charAt_3b067) ∈ gW := gW_mem 683 (by decide +kernel) (by decide +kernel)
theorem st_J2_charAt_3b067 : (Cond.static yJ2_charAt_3b067) ∈ gW := gW_mem 684 (by decide +kernel) (by decide +kernel)
theorem co_J2_charAt_3b067 : (Cond.code yJ2_charAt_3b067 cJ2_charAt_3b067 2 (Option.some FieldType.char)) ∈ gW := gW_mem 685 (by decide +kernel) (by decide +kernel)
theorem ml_J2_67 : (Cond.methodLink RJ2 67 yJ2_checkIndex_2214a) ∈ gW := gW_mem 686 (by decide +kernel) (by decide +kernel)
theorem st_J2_checkIndex_2214a : (Cond.static yJ2_checkIndex_2214a) ∈ gW := gW_mem 687 (by decide +kernel) (by decide +kernel)
theorem co_J2_checkIndex_2214a : (Cond.code yJ2_checkIndex_2214a cJ2_checkIndex_2214a 2 (Option.none)) ∈ gW := gW_mem 688 (by decide +kernel) (by decide +kernel)
theorem ml_J2_48 : (Cond.methodLink RJ2 48 yJ2_length_9d52b) ∈ gW := gW_mem 689 (by decide +kernel) (by decide +kernel)
theorem st_J2_length_9d52b : (Cond.static yJ2_length_9d52b) ∈ gW := gW_mem 690 (by decide +kernel) (by decide +kernel)
theorem co_J2_length_9d52b : (Cond.code yJ2_length_9d52b cJ2_length_9d52b 1 (Option.some FieldType.int)) ∈ gW := gW_mem 691 (by decide +kernel) (by decide +kernel)
theorem ml_J2_414 : (Cond.methodLink RJ2 414 yJ0_checkIndex_df160) ∈ gW := gW_mem 692 (by decide +kernel) (by decide +kernel)
theorem ml_J2_71 : (Cond.methodLink RJ2 71 yJ2_getChar_3b067) ∈ gW := gW_mem 693 (by decide +kernel) (by decide +kernel)
theorem st_J2_getChar_3b067 : (Cond.static yJ2_getChar_3b067) ∈ gW := gW_mem 694 (by decide +kernel) (by decide +kernel)
theorem co_J2_getChar_3b067 : (Cond.code yJ2_getChar_3b067 cJ2_getChar_3b067 2 (Option.some FieldType.char)) ∈ gW := gW_mem 695 (by decide +kernel) (by decide +kernel)
theorem fl_J2_44 : (Cond.fieldLink RJ2 44 "java/lang/StringUTF16" "$assertionsDisabled" "Z") ∈ gW := gW_mem 696 (by decide +kernel) (by decide +kernel)
theorem fl_J2_59 : (Cond.fieldLink RJ2 59 "java/lang/StringUTF16" "HI_BYTE_SHIFT" "I") ∈ gW := gW_mem 698 (by decide +kernel) (by decide +kernel)
theorem fl_J2_63 : (Cond.fieldLink RJ2 63 "java/lang/StringUTF16" "LO_BYTE_SHIFT" "I") ∈ gW := gW_mem 700 (by decide +kernel) (by decide +kernel)
theorem fl_J0_9 : (Cond.fieldLink RJ0 9 "java/lang/String" "value" "[B") ∈ gW := gW_mem 1345 (by decide +kernel) (by decide +kernel)
theorem fl_J0_15 : (Cond.fieldLink RJ0 15 "java/lang/String" "coder" "B") ∈ gW := gW_mem 1346 (by decide +kernel) (by decide +kernel)
theorem yt_J9_floorMod_7cf53 : qYt yJ9_floorMod_7cf53 cJ9_floorMod_7cf53 3 (Option.some FieldType.int) 2 := ⟨⟨co_J9_floorMod_7cf53, ini_J9, ⟨by decide +kernel, by decide +kernel⟩, by decide +kernel⟩, st_J9_floorMod_7cf53⟩
theorem yt_J9_abs_0f7a4 : qYt yJ9_abs_0f7a4 cJ9_abs_0f7a4 1 (Option.some FieldType.int) 1 := ⟨⟨co_J9_abs_0f7a4, ini_J9, ⟨by decide +kernel, by decide +kernel⟩, by decide +kernel⟩, st_J9_abs_0f7a4⟩
theorem yt_J9_max_7cf53 : qYt yJ9_max_7cf53 cJ9_max_7cf53 2 (Option.some FieldType.int) 2 := ⟨⟨co_J9_max_7cf53, ini_J9, ⟨by decide +kernel, by decide +kernel⟩, by decide +kernel⟩, st_J9_max_7cf53⟩
theorem yt_J9_min_7cf53 : qYt yJ9_min_7cf53 cJ9_min_7cf53 2 (Option.some FieldType.int) 2 := ⟨⟨co_J9_min_7cf53, ini_J9, ⟨by decide +kernel, by decide +kernel⟩, by decide +kernel⟩, st_J9_min_7cf53⟩
theorem yi_J0_length_8abf5 : qYi yJ0_length_8abf5 cJ0_length_8abf5 1 (Option.some FieldType.int) 0 := ⟨⟨co_J0_length_8abf5, ini_J0, ⟨by decide +kernel, by decide +kernel⟩, by decide +kernel⟩, im_J0_length_8abf5, se_J0_length_8abf5⟩
theorem yi_J0_charAt_5068e : qYi yJ0_charAt_5068e cJ0_charAt_5068e 2 (Option.some FieldType.char) 1 := ⟨⟨co_J0_charAt_5068e, ini_J0, ⟨by decide +kernel, by decide +kernel⟩, by decide +kernel⟩, im_J0_charAt_5068e, se_J0_charAt_5068e⟩
theorem yi_J0_coder_7d493 : qYi yJ0_coder_7d493 cJ0_coder_7d493 1 (Option.some FieldType.byte) 0 := ⟨⟨co_J0_coder_7d493, ini_J0, ⟨by decide +kernel, by decide +kernel⟩, by decide +kernel⟩, im_J0_coder_7d493, se_J0_coder_7d493⟩
theorem yi_J0_isLatin1_aae02 : qYi yJ0_isLatin1_aae02 cJ0_isLatin1_aae02 1 (Option.some FieldType.boolean) 0 := ⟨⟨co_J0_isLatin1_aae02, ini_J0, ⟨by decide +kernel, by decide +kernel⟩, by decide +kernel⟩, im_J0_isLatin1_aae02, se_J0_isLatin1_aae02⟩
theorem yt_J0_checkIndex_df160 : qYt yJ0_checkIndex_df160 cJ0_checkIndex_df160 2 (Option.none) 2 := ⟨⟨co_J0_checkIndex_df160, ini_J0, ⟨by decide +kernel, by decide +kernel⟩, by decide +kernel⟩, st_J0_checkIndex_df160⟩
theorem yt_J1_charAt_3b067 : qYt yJ1_charAt_3b067 cJ1_charAt_3b067 2 (Option.some FieldType.char) 2 := ⟨⟨co_J1_charAt_3b067, ini_J1, ⟨by decide +kernel, by decide +kernel⟩, by decide +kernel⟩, st_J1_charAt_3b067⟩
theorem yt_J2_getChar_3b067 : qYt yJ2_getChar_3b067 cJ2_getChar_3b067 2 (Option.some FieldType.char) 2 := ⟨⟨co_J2_getChar_3b067, ini_J2, ⟨by decide +kernel, by decide +kernel⟩, by decide +kernel⟩, st_J2_getChar_3b067⟩
theorem yt_J2_length_9d52b : qYt yJ2_length_9d52b cJ2_length_9d52b 1 (Option.some FieldType.int) 1 := ⟨⟨co_J2_length_9d52b, ini_J2, ⟨by decide +kernel, by decide +kernel⟩, by decide +kernel⟩, st_J2_length_9d52b⟩
theorem yt_J2_charAt_3b067 : qYt yJ2_charAt_3b067 cJ2_charAt_3b067 2 (Option.some FieldType.char) 2 := ⟨⟨co_J2_charAt_3b067, ini_J2, ⟨by decide +kernel, by decide +kernel⟩, by decide +kernel⟩, st_J2_charAt_3b067⟩
theorem yt_J2_checkIndex_2214a : qYt yJ2_checkIndex_2214a cJ2_checkIndex_2214a 2 (Option.none) 2 := ⟨⟨co_J2_checkIndex_2214a, ini_J2, ⟨by decide +kernel, by decide +kernel⟩, by decide +kernel⟩, st_J2_checkIndex_2214a⟩
theorem yt_J3_checkIndex_8e157 : qYt yJ3_checkIndex_8e157 cJ3_checkIndex_8e157 3 (Option.some FieldType.int) 3 := ⟨⟨co_J3_checkIndex_8e157, ini_J3, ⟨by decide +kernel, by decide +kernel⟩, by decide +kernel⟩, st_J3_checkIndex_8e157⟩
def nestW : List Cond := [(Cond.methodLinkNest RX6 11 yX2_init "PageFeeder"), (Cond.methodLinkNest RX2 17 yX4_init "PageFeeder"), (Cond.fieldLinkNest RX6 68 "PageFeeder$Parser" "filled" "I" "PageFeeder"), (Cond.methodLinkNest RX6 18 yX4_init "PageFeeder"), (Cond.methodLinkNest RX6 25 yX5_init "PageFeeder"), (Cond.methodLinkNest RX5 44 yX1_init "PageFeeder"), (Cond.methodLinkNest RX6 43 yX3_init "PageFeeder"), (Cond.methodLinkNest RX6 50 yX0_init "PageFeeder"), (Cond.methodLinkNest RX0 11 yX1_init "PageFeeder"), (Cond.fieldLinkNest RX4 44 "PageFeeder" "USUAL" "[I" "PageFeeder"), (Cond.fieldLinkNest RX2 145 "PageFeeder" "LEAST" "[I" "PageFeeder"), (Cond.fieldLinkNest RX2 148 "PageFeeder" "GREATEST" "[I" "PageFeeder")]
theorem nestW_tbl : ∀ w ∈ nestW, w ∈ lw_tbl := fun w h => of_decide_eq_true (List.all_eq_true.mp (show nestW.all (fun w => decide (w ∈ lw_tbl)) = true by decide +kernel) w h)
theorem mn_X6_11 : (Cond.methodLinkNest RX6 11 yX2_init "PageFeeder") ∈ nestW := List.mem_of_getElem? (i := 0) rfl
theorem mn_X2_17 : (Cond.methodLinkNest RX2 17 yX4_init "PageFeeder") ∈ nestW := List.mem_of_getElem? (i := 1) rfl
theorem fn_X6_68 : (Cond.fieldLinkNest RX6 68 "PageFeeder$Parser" "filled" "I" "PageFeeder") ∈ nestW := List.mem_of_getElem? (i := 2) rfl
theorem mn_X6_18 : (Cond.methodLinkNest RX6 18 yX4_init "PageFeeder") ∈ nestW := List.mem_of_getElem? (i := 3) rfl
theorem mn_X6_25 : (Cond.methodLinkNest RX6 25 yX5_init "PageFeeder") ∈ nestW := List.mem_of_getElem? (i := 4) rfl
theorem mn_X5_44 : (Cond.methodLinkNest RX5 44 yX1_init "PageFeeder") ∈ nestW := List.mem_of_getElem? (i := 5) rfl
theorem mn_X6_43 : (Cond.methodLinkNest RX6 43 yX3_init "PageFeeder") ∈ nestW := List.mem_of_getElem? (i := 6) rfl
theorem mn_X6_50 : (Cond.methodLinkNest RX6 50 yX0_init "PageFeeder") ∈ nestW := List.mem_of_getElem? (i := 7) rfl
theorem mn_X0_11 : (Cond.methodLinkNest RX0 11 yX1_init "PageFeeder") ∈ nestW := List.mem_of_getElem? (i := 8) rfl
theorem fn_X4_44 : (Cond.fieldLinkNest RX4 44 "PageFeeder" "USUAL" "[I" "PageFeeder") ∈ nestW := List.mem_of_getElem? (i := 9) rfl
theorem fn_X2_145 : (Cond.fieldLinkNest RX2 145 "PageFeeder" "LEAST" "[I" "PageFeeder") ∈ nestW := List.mem_of_getElem? (i := 10) rfl
theorem fn_X2_148 : (Cond.fieldLinkNest RX2 148 "PageFeeder" "GREATEST" "[I" "PageFeeder") ∈ nestW := List.mem_of_getElem? (i := 11) rfl
