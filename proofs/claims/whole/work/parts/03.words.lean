theorem i_init_X : Cond.initialized R_X ∈ gT := List.mem_filter.mpr ⟨List.mem_append_right _ (List.mem_of_getElem? (i := 1) (by decide +kernel)), by decide +kernel⟩
theorem i_inst_X : Cond.instantiable R_X 6 ∈ gT := List.mem_filter.mpr ⟨List.mem_append_right _ (List.mem_of_getElem? (i := 7) (by decide +kernel)), by decide +kernel⟩
theorem i_init_M : Cond.initialized R_M ∈ gT := List.mem_filter.mpr ⟨List.mem_append_right _ (List.mem_of_getElem? (i := 2) (by decide +kernel)), by decide +kernel⟩
theorem i_inst_M : Cond.instantiable R_M 8 ∈ gT := List.mem_filter.mpr ⟨List.mem_append_right _ (List.mem_of_getElem? (i := 143) (by decide +kernel)), by decide +kernel⟩
theorem i_arr_byte : Cond.arrayClass .byte ∈ gT := List.mem_filter.mpr ⟨List.mem_append_right _ (List.mem_of_getElem? (i := 33) (by decide +kernel)), by decide +kernel⟩
theorem i_arr_int : Cond.arrayClass .int ∈ gT := List.mem_filter.mpr ⟨List.mem_append_right _ (List.mem_of_getElem? (i := 34) (by decide +kernel)), by decide +kernel⟩
theorem i_objectInit_im : Cond.instanceMethod objectInit ∈ gT := List.mem_filter.mpr ⟨List.mem_append_right _ (List.mem_of_getElem? (i := 12) (by decide +kernel)), by decide +kernel⟩
theorem i_objectInit_code : Cond.code objectInit ⟨#[0xb1]⟩ 1 none ∈ gT := List.mem_filter.mpr ⟨List.mem_append_right _ (List.mem_of_getElem? (i := 13) (by rfl)), by rfl⟩
theorem i_Math_min_static : Cond.static Lib.Math.min.name ∈ gT := List.mem_filter.mpr ⟨List.mem_append_right _ (List.mem_of_getElem? (i := 74) (by decide +kernel)), by decide +kernel⟩
theorem i_Math_init : Cond.initialized "java/lang/Math" ∈ gT := List.mem_filter.mpr ⟨List.mem_append_right _ (List.mem_of_getElem? (i := 3) (by decide +kernel)), by decide +kernel⟩
theorem i_Math_min_code : Cond.code Lib.Math.min.name Lib.Math.min.code 2 (some .int) ∈ gT := List.mem_filter.mpr ⟨List.mem_append_right _ (List.mem_of_getElem? (i := 75) (by rfl)), by rfl⟩
theorem i_arraycopy_native : Cond.native arraycopyName ∈ gT := List.mem_filter.mpr ⟨List.mem_append_right _ (List.mem_of_getElem? (i := 78) (by decide +kernel)), by decide +kernel⟩
theorem i_arraycopy_static : Cond.static arraycopyName ∈ gT := List.mem_filter.mpr ⟨List.mem_append_right _ (List.mem_of_getElem? (i := 77) (by decide +kernel)), by decide +kernel⟩
theorem i_System_init : Cond.initialized "java/lang/System" ∈ gT := List.mem_filter.mpr ⟨List.mem_append_right _ (List.mem_of_getElem? (i := 4) (by decide +kernel)), by decide +kernel⟩
theorem i_Integer_init : Cond.initialized "java/lang/Integer" ∈ gT := List.mem_filter.mpr ⟨List.mem_append_right _ (List.mem_of_getElem? (i := 5) (by decide +kernel)), by decide +kernel⟩
theorem i_st_Integer_compare : Cond.static y_Integer_compare ∈ gT := List.mem_filter.mpr ⟨List.mem_append_right _ (List.mem_of_getElem? (i := 108) (by decide +kernel)), by decide +kernel⟩
theorem i_code_Integer_compare : Cond.code y_Integer_compare b_Integer_compare 2 (some .int) ∈ gT := List.mem_filter.mpr ⟨List.mem_append_right _ (List.mem_of_getElem? (i := 109) (by rfl)), by rfl⟩
theorem f_Integer_compare : gYs y_Integer_compare b_Integer_compare 2 (some .int) 2 := ⟨i_st_Integer_compare, i_Integer_init, i_code_Integer_compare, by decide +kernel⟩
theorem hin_X : ∀ w ∈ u_ws R_X F_X 6, w ∈ gT := by decide +kernel
theorem lk_X_tape : Cond.fieldLink R_X 9 "WordTerms" "tape" "[B" ∈ gT := List.mem_filter.mpr ⟨List.mem_append_right _ (List.mem_of_getElem? (i := 14) (by decide +kernel)), by decide +kernel⟩
theorem lk_X_tapeLength : Cond.fieldLink R_X 13 "WordTerms" "tapeLength" "I" ∈ gT := List.mem_filter.mpr ⟨List.mem_append_right _ (List.mem_of_getElem? (i := 15) (by decide +kernel)), by decide +kernel⟩
theorem lk_X_signs : Cond.fieldLink R_X 17 "WordTerms" "signs" "[B" ∈ gT := List.mem_filter.mpr ⟨List.mem_append_right _ (List.mem_of_getElem? (i := 16) (by decide +kernel)), by decide +kernel⟩
theorem lk_X_lengths : Cond.fieldLink R_X 20 "WordTerms" "lengths" "[I" ∈ gT := List.mem_filter.mpr ⟨List.mem_append_right _ (List.mem_of_getElem? (i := 17) (by decide +kernel)), by decide +kernel⟩
theorem lk_X_termCount : Cond.fieldLink R_X 24 "WordTerms" "termCount" "I" ∈ gT := List.mem_filter.mpr ⟨List.mem_append_right _ (List.mem_of_getElem? (i := 18) (by decide +kernel)), by decide +kernel⟩
theorem lk_X_distances : Cond.fieldLink R_X 27 "WordTerms" "distances" "[I" ∈ gT := List.mem_filter.mpr ⟨List.mem_append_right _ (List.mem_of_getElem? (i := 19) (by decide +kernel)), by decide +kernel⟩
theorem i_code_X_init : Cond.code y_X_init b_X_init 1 none ∈ gT := List.mem_filter.mpr ⟨List.mem_append_right _ (List.mem_of_getElem? (i := 10) (by rfl)), by rfl⟩
theorem i_im_X_init : Cond.instanceMethod y_X_init ∈ gT := List.mem_filter.mpr ⟨List.mem_append_right _ (List.mem_of_getElem? (i := 9) (by decide +kernel)), by decide +kernel⟩
theorem i_code_X_feed : Cond.code y_X_feed b_X_feed 6 (some .int) ∈ gT := List.mem_filter.mpr ⟨List.mem_append_right _ (List.mem_of_getElem? (i := 38) (by rfl)), by rfl⟩
theorem i_im_X_feed : Cond.instanceMethod y_X_feed ∈ gT := List.mem_filter.mpr ⟨List.mem_append_right _ (List.mem_of_getElem? (i := 36) (by decide +kernel)), by decide +kernel⟩
theorem i_sl_X_feed : Cond.selects R_X y_X_feed y_X_feed ∈ gT := List.mem_filter.mpr ⟨List.mem_append_right _ (List.mem_of_getElem? (i := 37) (by decide +kernel)), by decide +kernel⟩
theorem f_X_feed : gY R_X y_X_feed b_X_feed 6 (some .int) 5 := ⟨i_im_X_feed, i_sl_X_feed, i_init_X, i_code_X_feed, by decide +kernel⟩
theorem i_code_X_end : Cond.code y_X_end b_X_end 2 (some .int) ∈ gT := List.mem_filter.mpr ⟨List.mem_append_right _ (List.mem_of_getElem? (i := 49) (by rfl)), by rfl⟩
theorem i_im_X_end : Cond.instanceMethod y_X_end ∈ gT := List.mem_filter.mpr ⟨List.mem_append_right _ (List.mem_of_getElem? (i := 47) (by decide +kernel)), by decide +kernel⟩
theorem i_sl_X_end : Cond.selects R_X y_X_end y_X_end ∈ gT := List.mem_filter.mpr ⟨List.mem_append_right _ (List.mem_of_getElem? (i := 48) (by decide +kernel)), by decide +kernel⟩
theorem f_X_end : gY R_X y_X_end b_X_end 2 (some .int) 1 := ⟨i_im_X_end, i_sl_X_end, i_init_X, i_code_X_end, by decide +kernel⟩
theorem i_code_X_read : Cond.code y_X_read b_X_read 3 (some .int) ∈ gT := List.mem_filter.mpr ⟨List.mem_append_right _ (List.mem_of_getElem? (i := 53) (by rfl)), by rfl⟩
theorem i_im_X_read : Cond.instanceMethod y_X_read ∈ gT := List.mem_filter.mpr ⟨List.mem_append_right _ (List.mem_of_getElem? (i := 51) (by decide +kernel)), by decide +kernel⟩
theorem i_sl_X_read : Cond.selects R_X y_X_read y_X_read ∈ gT := List.mem_filter.mpr ⟨List.mem_append_right _ (List.mem_of_getElem? (i := 52) (by decide +kernel)), by decide +kernel⟩
theorem f_X_read : gY R_X y_X_read b_X_read 3 (some .int) 0 := ⟨i_im_X_read, i_sl_X_read, i_init_X, i_code_X_read, by decide +kernel⟩
theorem i_code_X_sign : Cond.code y_X_sign b_X_sign 3 (some .int) ∈ gT := List.mem_filter.mpr ⟨List.mem_append_right _ (List.mem_of_getElem? (i := 86) (by rfl)), by rfl⟩
theorem i_im_X_sign : Cond.instanceMethod y_X_sign ∈ gT := List.mem_filter.mpr ⟨List.mem_append_right _ (List.mem_of_getElem? (i := 84) (by decide +kernel)), by decide +kernel⟩
theorem i_sl_X_sign : Cond.selects R_X y_X_sign y_X_sign ∈ gT := List.mem_filter.mpr ⟨List.mem_append_right _ (List.mem_of_getElem? (i := 85) (by decide +kernel)), by decide +kernel⟩
theorem f_X_sign : gY R_X y_X_sign b_X_sign 3 (some .int) 2 := ⟨i_im_X_sign, i_sl_X_sign, i_init_X, i_code_X_sign, by decide +kernel⟩
theorem i_code_X_different : Cond.code y_X_different b_X_different 3 (some .int) ∈ gT := List.mem_filter.mpr ⟨List.mem_append_right _ (List.mem_of_getElem? (i := 98) (by rfl)), by rfl⟩
theorem i_im_X_different : Cond.instanceMethod y_X_different ∈ gT := List.mem_filter.mpr ⟨List.mem_append_right _ (List.mem_of_getElem? (i := 96) (by decide +kernel)), by decide +kernel⟩
theorem i_sl_X_different : Cond.selects R_X y_X_different y_X_different ∈ gT := List.mem_filter.mpr ⟨List.mem_append_right _ (List.mem_of_getElem? (i := 97) (by decide +kernel)), by decide +kernel⟩
theorem f_X_different : gY R_X y_X_different b_X_different 3 (some .int) 0 := ⟨i_im_X_different, i_sl_X_different, i_init_X, i_code_X_different, by decide +kernel⟩
theorem i_code_X_first : Cond.code y_X_first b_X_first 2 (some .int) ∈ gT := List.mem_filter.mpr ⟨List.mem_append_right _ (List.mem_of_getElem? (i := 113) (by rfl)), by rfl⟩
theorem i_im_X_first : Cond.instanceMethod y_X_first ∈ gT := List.mem_filter.mpr ⟨List.mem_append_right _ (List.mem_of_getElem? (i := 111) (by decide +kernel)), by decide +kernel⟩
theorem i_sl_X_first : Cond.selects R_X y_X_first y_X_first ∈ gT := List.mem_filter.mpr ⟨List.mem_append_right _ (List.mem_of_getElem? (i := 112) (by decide +kernel)), by decide +kernel⟩
theorem f_X_first : gY R_X y_X_first b_X_first 2 (some .int) 1 := ⟨i_im_X_first, i_sl_X_first, i_init_X, i_code_X_first, by decide +kernel⟩
theorem i_code_X_compare : Cond.code y_X_compare b_X_compare 3 (some .int) ∈ gT := List.mem_filter.mpr ⟨List.mem_append_right _ (List.mem_of_getElem? (i := 117) (by rfl)), by rfl⟩
theorem i_im_X_compare : Cond.instanceMethod y_X_compare ∈ gT := List.mem_filter.mpr ⟨List.mem_append_right _ (List.mem_of_getElem? (i := 115) (by decide +kernel)), by decide +kernel⟩
theorem i_sl_X_compare : Cond.selects R_X y_X_compare y_X_compare ∈ gT := List.mem_filter.mpr ⟨List.mem_append_right _ (List.mem_of_getElem? (i := 116) (by decide +kernel)), by decide +kernel⟩
theorem f_X_compare : gY R_X y_X_compare b_X_compare 3 (some .int) 2 := ⟨i_im_X_compare, i_sl_X_compare, i_init_X, i_code_X_compare, by decide +kernel⟩
theorem i_code_X_apart : Cond.code y_X_apart b_X_apart 2 (some .int) ∈ gT := List.mem_filter.mpr ⟨List.mem_append_right _ (List.mem_of_getElem? (i := 121) (by rfl)), by rfl⟩
theorem i_im_X_apart : Cond.instanceMethod y_X_apart ∈ gT := List.mem_filter.mpr ⟨List.mem_append_right _ (List.mem_of_getElem? (i := 119) (by decide +kernel)), by decide +kernel⟩
theorem i_sl_X_apart : Cond.selects R_X y_X_apart y_X_apart ∈ gT := List.mem_filter.mpr ⟨List.mem_append_right _ (List.mem_of_getElem? (i := 120) (by decide +kernel)), by decide +kernel⟩
theorem f_X_apart : gY R_X y_X_apart b_X_apart 2 (some .int) 1 := ⟨i_im_X_apart, i_sl_X_apart, i_init_X, i_code_X_apart, by decide +kernel⟩
theorem i_code_X_nearest : Cond.code y_X_nearest b_X_nearest 5 (some .int) ∈ gT := List.mem_filter.mpr ⟨List.mem_append_right _ (List.mem_of_getElem? (i := 137) (by rfl)), by rfl⟩
theorem i_im_X_nearest : Cond.instanceMethod y_X_nearest ∈ gT := List.mem_filter.mpr ⟨List.mem_append_right _ (List.mem_of_getElem? (i := 135) (by decide +kernel)), by decide +kernel⟩
theorem i_sl_X_nearest : Cond.selects R_X y_X_nearest y_X_nearest ∈ gT := List.mem_filter.mpr ⟨List.mem_append_right _ (List.mem_of_getElem? (i := 136) (by decide +kernel)), by decide +kernel⟩
theorem f_X_nearest : gY R_X y_X_nearest b_X_nearest 5 (some .int) 0 := ⟨i_im_X_nearest, i_sl_X_nearest, i_init_X, i_code_X_nearest, by decide +kernel⟩
theorem i_code_X_plain : Cond.code y_X_plain b_X_plain 2 (some .int) ∈ gT := List.mem_filter.mpr ⟨List.mem_append_right _ (List.mem_of_getElem? (i := 141) (by rfl)), by rfl⟩
theorem i_im_X_plain : Cond.instanceMethod y_X_plain ∈ gT := List.mem_filter.mpr ⟨List.mem_append_right _ (List.mem_of_getElem? (i := 139) (by decide +kernel)), by decide +kernel⟩
theorem i_sl_X_plain : Cond.selects R_X y_X_plain y_X_plain ∈ gT := List.mem_filter.mpr ⟨List.mem_append_right _ (List.mem_of_getElem? (i := 140) (by decide +kernel)), by decide +kernel⟩
theorem f_X_plain : gY R_X y_X_plain b_X_plain 2 (some .int) 0 := ⟨i_im_X_plain, i_sl_X_plain, i_init_X, i_code_X_plain, by decide +kernel⟩
theorem i_code_X_putFour : Cond.code y_X_putFour b_X_putFour 3 none ∈ gT := List.mem_filter.mpr ⟨List.mem_append_right _ (List.mem_of_getElem? (i := 42) (by rfl)), by rfl⟩
theorem i_im_X_putFour : Cond.instanceMethod y_X_putFour ∈ gT := List.mem_filter.mpr ⟨List.mem_append_right _ (List.mem_of_getElem? (i := 41) (by decide +kernel)), by decide +kernel⟩
theorem i_sl_X_putFour : Cond.selects R_X y_X_putFour y_X_putFour ∈ gT := List.mem_filter.mpr ⟨List.mem_append_left _ (List.mem_of_getElem? (i := 0) (by decide +kernel)), by decide +kernel⟩
theorem f_X_putFour : gY R_X y_X_putFour b_X_putFour 3 none 1 := ⟨i_im_X_putFour, i_sl_X_putFour, i_init_X, i_code_X_putFour, by decide +kernel⟩
theorem i_code_X_small : Cond.code y_X_small b_X_small 1 (some .byte) ∈ gT := List.mem_filter.mpr ⟨List.mem_append_right _ (List.mem_of_getElem? (i := 45) (by rfl)), by rfl⟩
theorem i_st_X_small : Cond.static y_X_small ∈ gT := List.mem_filter.mpr ⟨List.mem_append_right _ (List.mem_of_getElem? (i := 44) (by decide +kernel)), by decide +kernel⟩
theorem f_X_small : gYs y_X_small b_X_small 1 (some .byte) 1 := ⟨i_st_X_small, i_init_X, i_code_X_small, by decide +kernel⟩
theorem i_code_X_isSign : Cond.code y_X_isSign b_X_isSign 1 (some .boolean) ∈ gT := List.mem_filter.mpr ⟨List.mem_append_right _ (List.mem_of_getElem? (i := 56) (by rfl)), by rfl⟩
theorem i_st_X_isSign : Cond.static y_X_isSign ∈ gT := List.mem_filter.mpr ⟨List.mem_append_right _ (List.mem_of_getElem? (i := 55) (by decide +kernel)), by decide +kernel⟩
theorem f_X_isSign : gYs y_X_isSign b_X_isSign 1 (some .boolean) 1 := ⟨i_st_X_isSign, i_init_X, i_code_X_isSign, by decide +kernel⟩
theorem i_code_X_tapeIsWord : Cond.code y_X_tapeIsWord b_X_tapeIsWord 2 (some .boolean) ∈ gT := List.mem_filter.mpr ⟨List.mem_append_right _ (List.mem_of_getElem? (i := 129) (by rfl)), by rfl⟩
theorem i_im_X_tapeIsWord : Cond.instanceMethod y_X_tapeIsWord ∈ gT := List.mem_filter.mpr ⟨List.mem_append_right _ (List.mem_of_getElem? (i := 128) (by decide +kernel)), by decide +kernel⟩
theorem i_sl_X_tapeIsWord : Cond.selects R_X y_X_tapeIsWord y_X_tapeIsWord ∈ gT := List.mem_filter.mpr ⟨List.mem_append_left _ (List.mem_of_getElem? (i := 11) (by decide +kernel)), by decide +kernel⟩
theorem f_X_tapeIsWord : gY R_X y_X_tapeIsWord b_X_tapeIsWord 2 (some .boolean) 0 := ⟨i_im_X_tapeIsWord, i_sl_X_tapeIsWord, i_init_X, i_code_X_tapeIsWord, by decide +kernel⟩
theorem i_code_X_takeTapeTerm : Cond.code y_X_takeTapeTerm b_X_takeTapeTerm 2 (some .boolean) ∈ gT := List.mem_filter.mpr ⟨List.mem_append_right _ (List.mem_of_getElem? (i := 125) (by rfl)), by rfl⟩
theorem i_im_X_takeTapeTerm : Cond.instanceMethod y_X_takeTapeTerm ∈ gT := List.mem_filter.mpr ⟨List.mem_append_right _ (List.mem_of_getElem? (i := 124) (by decide +kernel)), by decide +kernel⟩
theorem i_sl_X_takeTapeTerm : Cond.selects R_X y_X_takeTapeTerm y_X_takeTapeTerm ∈ gT := List.mem_filter.mpr ⟨List.mem_append_left _ (List.mem_of_getElem? (i := 10) (by decide +kernel)), by decide +kernel⟩
theorem f_X_takeTapeTerm : gY R_X y_X_takeTapeTerm b_X_takeTapeTerm 2 (some .boolean) 0 := ⟨i_im_X_takeTapeTerm, i_sl_X_takeTapeTerm, i_init_X, i_code_X_takeTapeTerm, by decide +kernel⟩
theorem i_code_X_addTerm : Cond.code y_X_addTerm b_X_addTerm 3 none ∈ gT := List.mem_filter.mpr ⟨List.mem_append_right _ (List.mem_of_getElem? (i := 60) (by rfl)), by rfl⟩
theorem i_im_X_addTerm : Cond.instanceMethod y_X_addTerm ∈ gT := List.mem_filter.mpr ⟨List.mem_append_right _ (List.mem_of_getElem? (i := 59) (by decide +kernel)), by decide +kernel⟩
theorem i_sl_X_addTerm : Cond.selects R_X y_X_addTerm y_X_addTerm ∈ gT := List.mem_filter.mpr ⟨List.mem_append_left _ (List.mem_of_getElem? (i := 1) (by decide +kernel)), by decide +kernel⟩
theorem f_X_addTerm : gY R_X y_X_addTerm b_X_addTerm 3 none 2 := ⟨i_im_X_addTerm, i_sl_X_addTerm, i_init_X, i_code_X_addTerm, by decide +kernel⟩
theorem i_code_X_writeTerm : Cond.code y_X_writeTerm b_X_writeTerm 5 none ∈ gT := List.mem_filter.mpr ⟨List.mem_append_right _ (List.mem_of_getElem? (i := 64) (by rfl)), by rfl⟩
theorem i_im_X_writeTerm : Cond.instanceMethod y_X_writeTerm ∈ gT := List.mem_filter.mpr ⟨List.mem_append_right _ (List.mem_of_getElem? (i := 63) (by decide +kernel)), by decide +kernel⟩
theorem i_sl_X_writeTerm : Cond.selects R_X y_X_writeTerm y_X_writeTerm ∈ gT := List.mem_filter.mpr ⟨List.mem_append_left _ (List.mem_of_getElem? (i := 2) (by decide +kernel)), by decide +kernel⟩
theorem f_X_writeTerm : gY R_X y_X_writeTerm b_X_writeTerm 5 none 3 := ⟨i_im_X_writeTerm, i_sl_X_writeTerm, i_init_X, i_code_X_writeTerm, by decide +kernel⟩
theorem i_code_X_endsWithIes : Cond.code y_X_endsWithIes b_X_endsWithIes 2 (some .boolean) ∈ gT := List.mem_filter.mpr ⟨List.mem_append_right _ (List.mem_of_getElem? (i := 68) (by rfl)), by rfl⟩
theorem i_im_X_endsWithIes : Cond.instanceMethod y_X_endsWithIes ∈ gT := List.mem_filter.mpr ⟨List.mem_append_right _ (List.mem_of_getElem? (i := 67) (by decide +kernel)), by decide +kernel⟩
theorem i_sl_X_endsWithIes : Cond.selects R_X y_X_endsWithIes y_X_endsWithIes ∈ gT := List.mem_filter.mpr ⟨List.mem_append_left _ (List.mem_of_getElem? (i := 3) (by decide +kernel)), by decide +kernel⟩
theorem f_X_endsWithIes : gY R_X y_X_endsWithIes b_X_endsWithIes 2 (some .boolean) 1 := ⟨i_im_X_endsWithIes, i_sl_X_endsWithIes, i_init_X, i_code_X_endsWithIes, by decide +kernel⟩
theorem i_code_X_endsWithLooseS : Cond.code y_X_endsWithLooseS b_X_endsWithLooseS 2 (some .boolean) ∈ gT := List.mem_filter.mpr ⟨List.mem_append_right _ (List.mem_of_getElem? (i := 82) (by rfl)), by rfl⟩
theorem i_im_X_endsWithLooseS : Cond.instanceMethod y_X_endsWithLooseS ∈ gT := List.mem_filter.mpr ⟨List.mem_append_right _ (List.mem_of_getElem? (i := 81) (by decide +kernel)), by decide +kernel⟩
theorem i_sl_X_endsWithLooseS : Cond.selects R_X y_X_endsWithLooseS y_X_endsWithLooseS ∈ gT := List.mem_filter.mpr ⟨List.mem_append_left _ (List.mem_of_getElem? (i := 5) (by decide +kernel)), by decide +kernel⟩
theorem f_X_endsWithLooseS : gY R_X y_X_endsWithLooseS b_X_endsWithLooseS 2 (some .boolean) 1 := ⟨i_im_X_endsWithLooseS, i_sl_X_endsWithLooseS, i_init_X, i_code_X_endsWithLooseS, by decide +kernel⟩
theorem i_code_X_writeSigns : Cond.code y_X_writeSigns b_X_writeSigns 5 none ∈ gT := List.mem_filter.mpr ⟨List.mem_append_right _ (List.mem_of_getElem? (i := 72) (by rfl)), by rfl⟩
theorem i_im_X_writeSigns : Cond.instanceMethod y_X_writeSigns ∈ gT := List.mem_filter.mpr ⟨List.mem_append_right _ (List.mem_of_getElem? (i := 71) (by decide +kernel)), by decide +kernel⟩
theorem i_sl_X_writeSigns : Cond.selects R_X y_X_writeSigns y_X_writeSigns ∈ gT := List.mem_filter.mpr ⟨List.mem_append_left _ (List.mem_of_getElem? (i := 4) (by decide +kernel)), by decide +kernel⟩
theorem f_X_writeSigns : gY R_X y_X_writeSigns b_X_writeSigns 5 none 3 := ⟨i_im_X_writeSigns, i_sl_X_writeSigns, i_init_X, i_code_X_writeSigns, by decide +kernel⟩
theorem i_code_X_hasTerm : Cond.code y_X_hasTerm b_X_hasTerm 2 (some .boolean) ∈ gT := List.mem_filter.mpr ⟨List.mem_append_right _ (List.mem_of_getElem? (i := 90) (by rfl)), by rfl⟩
theorem i_im_X_hasTerm : Cond.instanceMethod y_X_hasTerm ∈ gT := List.mem_filter.mpr ⟨List.mem_append_right _ (List.mem_of_getElem? (i := 89) (by decide +kernel)), by decide +kernel⟩
theorem i_sl_X_hasTerm : Cond.selects R_X y_X_hasTerm y_X_hasTerm ∈ gT := List.mem_filter.mpr ⟨List.mem_append_left _ (List.mem_of_getElem? (i := 6) (by decide +kernel)), by decide +kernel⟩
theorem f_X_hasTerm : gY R_X y_X_hasTerm b_X_hasTerm 2 (some .boolean) 1 := ⟨i_im_X_hasTerm, i_sl_X_hasTerm, i_init_X, i_code_X_hasTerm, by decide +kernel⟩
theorem i_code_X_signAt : Cond.code y_X_signAt b_X_signAt 3 (some .int) ∈ gT := List.mem_filter.mpr ⟨List.mem_append_right _ (List.mem_of_getElem? (i := 94) (by rfl)), by rfl⟩
theorem i_im_X_signAt : Cond.instanceMethod y_X_signAt ∈ gT := List.mem_filter.mpr ⟨List.mem_append_right _ (List.mem_of_getElem? (i := 93) (by decide +kernel)), by decide +kernel⟩
theorem i_sl_X_signAt : Cond.selects R_X y_X_signAt y_X_signAt ∈ gT := List.mem_filter.mpr ⟨List.mem_append_left _ (List.mem_of_getElem? (i := 7) (by decide +kernel)), by decide +kernel⟩
theorem f_X_signAt : gY R_X y_X_signAt b_X_signAt 3 (some .int) 2 := ⟨i_im_X_signAt, i_sl_X_signAt, i_init_X, i_code_X_signAt, by decide +kernel⟩
theorem i_code_X_firstSame : Cond.code y_X_firstSame b_X_firstSame 3 (some .int) ∈ gT := List.mem_filter.mpr ⟨List.mem_append_right _ (List.mem_of_getElem? (i := 102) (by rfl)), by rfl⟩
theorem i_im_X_firstSame : Cond.instanceMethod y_X_firstSame ∈ gT := List.mem_filter.mpr ⟨List.mem_append_right _ (List.mem_of_getElem? (i := 101) (by decide +kernel)), by decide +kernel⟩
theorem i_sl_X_firstSame : Cond.selects R_X y_X_firstSame y_X_firstSame ∈ gT := List.mem_filter.mpr ⟨List.mem_append_left _ (List.mem_of_getElem? (i := 8) (by decide +kernel)), by decide +kernel⟩
theorem f_X_firstSame : gY R_X y_X_firstSame b_X_firstSame 3 (some .int) 1 := ⟨i_im_X_firstSame, i_sl_X_firstSame, i_init_X, i_code_X_firstSame, by decide +kernel⟩
theorem i_code_X_order : Cond.code y_X_order b_X_order 5 (some .int) ∈ gT := List.mem_filter.mpr ⟨List.mem_append_right _ (List.mem_of_getElem? (i := 106) (by rfl)), by rfl⟩
theorem i_im_X_order : Cond.instanceMethod y_X_order ∈ gT := List.mem_filter.mpr ⟨List.mem_append_right _ (List.mem_of_getElem? (i := 105) (by decide +kernel)), by decide +kernel⟩
theorem i_sl_X_order : Cond.selects R_X y_X_order y_X_order ∈ gT := List.mem_filter.mpr ⟨List.mem_append_left _ (List.mem_of_getElem? (i := 9) (by decide +kernel)), by decide +kernel⟩
theorem f_X_order : gY R_X y_X_order b_X_order 5 (some .int) 2 := ⟨i_im_X_order, i_sl_X_order, i_init_X, i_code_X_order, by decide +kernel⟩
theorem i_code_X_distance : Cond.code y_X_distance b_X_distance 8 (some .int) ∈ gT := List.mem_filter.mpr ⟨List.mem_append_right _ (List.mem_of_getElem? (i := 133) (by rfl)), by rfl⟩
theorem i_im_X_distance : Cond.instanceMethod y_X_distance ∈ gT := List.mem_filter.mpr ⟨List.mem_append_right _ (List.mem_of_getElem? (i := 132) (by decide +kernel)), by decide +kernel⟩
theorem i_sl_X_distance : Cond.selects R_X y_X_distance y_X_distance ∈ gT := List.mem_filter.mpr ⟨List.mem_append_left _ (List.mem_of_getElem? (i := 12) (by decide +kernel)), by decide +kernel⟩
theorem f_X_distance : gY R_X y_X_distance b_X_distance 8 (some .int) 2 := ⟨i_im_X_distance, i_sl_X_distance, i_init_X, i_code_X_distance, by decide +kernel⟩
theorem hin_M : ∀ w ∈ u_ws R_M F_M 8, w ∈ gT := by decide +kernel
theorem lk_M_tape : Cond.fieldLink R_M 9 "WordTermsModel" "tape" "[B" ∈ gT := List.mem_filter.mpr ⟨List.mem_append_right _ (List.mem_of_getElem? (i := 148) (by decide +kernel)), by decide +kernel⟩
theorem lk_M_length : Cond.fieldLink R_M 26 "WordTermsModel" "length" "I" ∈ gT := List.mem_filter.mpr ⟨List.mem_append_right _ (List.mem_of_getElem? (i := 149) (by decide +kernel)), by decide +kernel⟩
theorem lk_M_terms : Cond.fieldLink R_M 13 "WordTermsModel" "terms" "[B" ∈ gT := List.mem_filter.mpr ⟨List.mem_append_right _ (List.mem_of_getElem? (i := 150) (by decide +kernel)), by decide +kernel⟩
theorem lk_M_sizes : Cond.fieldLink R_M 16 "WordTermsModel" "sizes" "[I" ∈ gT := List.mem_filter.mpr ⟨List.mem_append_right _ (List.mem_of_getElem? (i := 151) (by decide +kernel)), by decide +kernel⟩
theorem lk_M_count : Cond.fieldLink R_M 48 "WordTermsModel" "count" "I" ∈ gT := List.mem_filter.mpr ⟨List.mem_append_right _ (List.mem_of_getElem? (i := 152) (by decide +kernel)), by decide +kernel⟩
theorem lk_M_word : Cond.fieldLink R_M 20 "WordTermsModel" "word" "[B" ∈ gT := List.mem_filter.mpr ⟨List.mem_append_right _ (List.mem_of_getElem? (i := 153) (by decide +kernel)), by decide +kernel⟩
theorem lk_M_wordLength : Cond.fieldLink R_M 34 "WordTermsModel" "wordLength" "I" ∈ gT := List.mem_filter.mpr ⟨List.mem_append_right _ (List.mem_of_getElem? (i := 154) (by decide +kernel)), by decide +kernel⟩
theorem lk_M_table : Cond.fieldLink R_M 23 "WordTermsModel" "table" "[I" ∈ gT := List.mem_filter.mpr ⟨List.mem_append_right _ (List.mem_of_getElem? (i := 155) (by decide +kernel)), by decide +kernel⟩
theorem i_code_M_init : Cond.code y_M_init b_M_init 1 none ∈ gT := List.mem_filter.mpr ⟨List.mem_append_right _ (List.mem_of_getElem? (i := 146) (by rfl)), by rfl⟩
theorem i_im_M_init : Cond.instanceMethod y_M_init ∈ gT := List.mem_filter.mpr ⟨List.mem_append_right _ (List.mem_of_getElem? (i := 145) (by decide +kernel)), by decide +kernel⟩
theorem i_code_M_put : Cond.code y_M_put b_M_put 3 none ∈ gT := List.mem_filter.mpr ⟨List.mem_append_right _ (List.mem_of_getElem? (i := 180) (by rfl)), by rfl⟩
theorem i_im_M_put : Cond.instanceMethod y_M_put ∈ gT := List.mem_filter.mpr ⟨List.mem_append_right _ (List.mem_of_getElem? (i := 179) (by decide +kernel)), by decide +kernel⟩
theorem i_sl_M_put : Cond.selects R_M y_M_put y_M_put ∈ gT := List.mem_filter.mpr ⟨List.mem_append_left _ (List.mem_of_getElem? (i := 13) (by decide +kernel)), by decide +kernel⟩
theorem f_M_put : gY R_M y_M_put b_M_put 3 none 1 := ⟨i_im_M_put, i_sl_M_put, i_init_M, i_code_M_put, by decide +kernel⟩
theorem i_code_M_feed : Cond.code y_M_feed b_M_feed 6 (some .int) ∈ gT := List.mem_filter.mpr ⟨List.mem_append_right _ (List.mem_of_getElem? (i := 176) (by rfl)), by rfl⟩
theorem i_im_M_feed : Cond.instanceMethod y_M_feed ∈ gT := List.mem_filter.mpr ⟨List.mem_append_right _ (List.mem_of_getElem? (i := 174) (by decide +kernel)), by decide +kernel⟩
theorem i_sl_M_feed : Cond.selects R_M y_M_feed y_M_feed ∈ gT := List.mem_filter.mpr ⟨List.mem_append_right _ (List.mem_of_getElem? (i := 175) (by decide +kernel)), by decide +kernel⟩
theorem f_M_feed : gY R_M y_M_feed b_M_feed 6 (some .int) 5 := ⟨i_im_M_feed, i_sl_M_feed, i_init_M, i_code_M_feed, by decide +kernel⟩
theorem i_code_M_end : Cond.code y_M_end b_M_end 2 (some .int) ∈ gT := List.mem_filter.mpr ⟨List.mem_append_right _ (List.mem_of_getElem? (i := 184) (by rfl)), by rfl⟩
theorem i_im_M_end : Cond.instanceMethod y_M_end ∈ gT := List.mem_filter.mpr ⟨List.mem_append_right _ (List.mem_of_getElem? (i := 182) (by decide +kernel)), by decide +kernel⟩
theorem i_sl_M_end : Cond.selects R_M y_M_end y_M_end ∈ gT := List.mem_filter.mpr ⟨List.mem_append_right _ (List.mem_of_getElem? (i := 183) (by decide +kernel)), by decide +kernel⟩
theorem f_M_end : gY R_M y_M_end b_M_end 2 (some .int) 1 := ⟨i_im_M_end, i_sl_M_end, i_init_M, i_code_M_end, by decide +kernel⟩
theorem i_code_M_letter : Cond.code y_M_letter b_M_letter 1 (some .boolean) ∈ gT := List.mem_filter.mpr ⟨List.mem_append_right _ (List.mem_of_getElem? (i := 191) (by rfl)), by rfl⟩
theorem i_st_M_letter : Cond.static y_M_letter ∈ gT := List.mem_filter.mpr ⟨List.mem_append_right _ (List.mem_of_getElem? (i := 190) (by decide +kernel)), by decide +kernel⟩
theorem f_M_letter : gYs y_M_letter b_M_letter 1 (some .boolean) 1 := ⟨i_st_M_letter, i_init_M, i_code_M_letter, by decide +kernel⟩
theorem i_code_M_run : Cond.code y_M_run b_M_run 3 (some .int) ∈ gT := List.mem_filter.mpr ⟨List.mem_append_right _ (List.mem_of_getElem? (i := 195) (by rfl)), by rfl⟩
theorem i_im_M_run : Cond.instanceMethod y_M_run ∈ gT := List.mem_filter.mpr ⟨List.mem_append_right _ (List.mem_of_getElem? (i := 194) (by decide +kernel)), by decide +kernel⟩
theorem i_sl_M_run : Cond.selects R_M y_M_run y_M_run ∈ gT := List.mem_filter.mpr ⟨List.mem_append_left _ (List.mem_of_getElem? (i := 14) (by decide +kernel)), by decide +kernel⟩
theorem f_M_run : gY R_M y_M_run b_M_run 3 (some .int) 1 := ⟨i_im_M_run, i_sl_M_run, i_init_M, i_code_M_run, by decide +kernel⟩
theorem i_code_M_last : Cond.code y_M_last b_M_last 2 (some .int) ∈ gT := List.mem_filter.mpr ⟨List.mem_append_right _ (List.mem_of_getElem? (i := 203) (by rfl)), by rfl⟩
theorem i_im_M_last : Cond.instanceMethod y_M_last ∈ gT := List.mem_filter.mpr ⟨List.mem_append_right _ (List.mem_of_getElem? (i := 202) (by decide +kernel)), by decide +kernel⟩
theorem i_sl_M_last : Cond.selects R_M y_M_last y_M_last ∈ gT := List.mem_filter.mpr ⟨List.mem_append_left _ (List.mem_of_getElem? (i := 16) (by decide +kernel)), by decide +kernel⟩
theorem f_M_last : gY R_M y_M_last b_M_last 2 (some .int) 1 := ⟨i_im_M_last, i_sl_M_last, i_init_M, i_code_M_last, by decide +kernel⟩
theorem i_code_M_note : Cond.code y_M_note b_M_note 5 none ∈ gT := List.mem_filter.mpr ⟨List.mem_append_right _ (List.mem_of_getElem? (i := 199) (by rfl)), by rfl⟩
theorem i_im_M_note : Cond.instanceMethod y_M_note ∈ gT := List.mem_filter.mpr ⟨List.mem_append_right _ (List.mem_of_getElem? (i := 198) (by decide +kernel)), by decide +kernel⟩
theorem i_sl_M_note : Cond.selects R_M y_M_note y_M_note ∈ gT := List.mem_filter.mpr ⟨List.mem_append_left _ (List.mem_of_getElem? (i := 15) (by decide +kernel)), by decide +kernel⟩
theorem f_M_note : gY R_M y_M_note b_M_note 5 none 2 := ⟨i_im_M_note, i_sl_M_note, i_init_M, i_code_M_note, by decide +kernel⟩
theorem i_code_M_oneWord : Cond.code y_M_oneWord b_M_oneWord 2 (some .boolean) ∈ gT := List.mem_filter.mpr ⟨List.mem_append_right _ (List.mem_of_getElem? (i := 236) (by rfl)), by rfl⟩
theorem i_im_M_oneWord : Cond.instanceMethod y_M_oneWord ∈ gT := List.mem_filter.mpr ⟨List.mem_append_right _ (List.mem_of_getElem? (i := 235) (by decide +kernel)), by decide +kernel⟩
theorem i_sl_M_oneWord : Cond.selects R_M y_M_oneWord y_M_oneWord ∈ gT := List.mem_filter.mpr ⟨List.mem_append_left _ (List.mem_of_getElem? (i := 19) (by decide +kernel)), by decide +kernel⟩
theorem f_M_oneWord : gY R_M y_M_oneWord b_M_oneWord 2 (some .boolean) 0 := ⟨i_im_M_oneWord, i_sl_M_oneWord, i_init_M, i_code_M_oneWord, by decide +kernel⟩
theorem i_code_M_read : Cond.code y_M_read b_M_read 2 (some .int) ∈ gT := List.mem_filter.mpr ⟨List.mem_append_right _ (List.mem_of_getElem? (i := 188) (by rfl)), by rfl⟩
theorem i_im_M_read : Cond.instanceMethod y_M_read ∈ gT := List.mem_filter.mpr ⟨List.mem_append_right _ (List.mem_of_getElem? (i := 186) (by decide +kernel)), by decide +kernel⟩
theorem i_sl_M_read : Cond.selects R_M y_M_read y_M_read ∈ gT := List.mem_filter.mpr ⟨List.mem_append_right _ (List.mem_of_getElem? (i := 187) (by decide +kernel)), by decide +kernel⟩
theorem f_M_read : gY R_M y_M_read b_M_read 2 (some .int) 0 := ⟨i_im_M_read, i_sl_M_read, i_init_M, i_code_M_read, by decide +kernel⟩
theorem i_code_M_is : Cond.code y_M_is b_M_is 2 (some .boolean) ∈ gT := List.mem_filter.mpr ⟨List.mem_append_right _ (List.mem_of_getElem? (i := 211) (by rfl)), by rfl⟩
theorem i_im_M_is : Cond.instanceMethod y_M_is ∈ gT := List.mem_filter.mpr ⟨List.mem_append_right _ (List.mem_of_getElem? (i := 210) (by decide +kernel)), by decide +kernel⟩
theorem i_sl_M_is : Cond.selects R_M y_M_is y_M_is ∈ gT := List.mem_filter.mpr ⟨List.mem_append_left _ (List.mem_of_getElem? (i := 17) (by decide +kernel)), by decide +kernel⟩
theorem f_M_is : gY R_M y_M_is b_M_is 2 (some .boolean) 1 := ⟨i_im_M_is, i_sl_M_is, i_init_M, i_code_M_is, by decide +kernel⟩
theorem i_code_M_sign : Cond.code y_M_sign b_M_sign 3 (some .int) ∈ gT := List.mem_filter.mpr ⟨List.mem_append_right _ (List.mem_of_getElem? (i := 207) (by rfl)), by rfl⟩
theorem i_im_M_sign : Cond.instanceMethod y_M_sign ∈ gT := List.mem_filter.mpr ⟨List.mem_append_right _ (List.mem_of_getElem? (i := 205) (by decide +kernel)), by decide +kernel⟩
theorem i_sl_M_sign : Cond.selects R_M y_M_sign y_M_sign ∈ gT := List.mem_filter.mpr ⟨List.mem_append_right _ (List.mem_of_getElem? (i := 206) (by decide +kernel)), by decide +kernel⟩
theorem f_M_sign : gY R_M y_M_sign b_M_sign 3 (some .int) 2 := ⟨i_im_M_sign, i_sl_M_sign, i_init_M, i_code_M_sign, by decide +kernel⟩
theorem i_code_M_order : Cond.code y_M_order b_M_order 4 (some .int) ∈ gT := List.mem_filter.mpr ⟨List.mem_append_right _ (List.mem_of_getElem? (i := 219) (by rfl)), by rfl⟩
theorem i_im_M_order : Cond.instanceMethod y_M_order ∈ gT := List.mem_filter.mpr ⟨List.mem_append_right _ (List.mem_of_getElem? (i := 218) (by decide +kernel)), by decide +kernel⟩
theorem i_sl_M_order : Cond.selects R_M y_M_order y_M_order ∈ gT := List.mem_filter.mpr ⟨List.mem_append_left _ (List.mem_of_getElem? (i := 18) (by decide +kernel)), by decide +kernel⟩
theorem f_M_order : gY R_M y_M_order b_M_order 4 (some .int) 2 := ⟨i_im_M_order, i_sl_M_order, i_init_M, i_code_M_order, by decide +kernel⟩
theorem i_code_M_first : Cond.code y_M_first b_M_first 3 (some .int) ∈ gT := List.mem_filter.mpr ⟨List.mem_append_right _ (List.mem_of_getElem? (i := 215) (by rfl)), by rfl⟩
theorem i_im_M_first : Cond.instanceMethod y_M_first ∈ gT := List.mem_filter.mpr ⟨List.mem_append_right _ (List.mem_of_getElem? (i := 213) (by decide +kernel)), by decide +kernel⟩
theorem i_sl_M_first : Cond.selects R_M y_M_first y_M_first ∈ gT := List.mem_filter.mpr ⟨List.mem_append_right _ (List.mem_of_getElem? (i := 214) (by decide +kernel)), by decide +kernel⟩
theorem f_M_first : gY R_M y_M_first b_M_first 3 (some .int) 1 := ⟨i_im_M_first, i_sl_M_first, i_init_M, i_code_M_first, by decide +kernel⟩
theorem i_code_M_different : Cond.code y_M_different b_M_different 3 (some .int) ∈ gT := List.mem_filter.mpr ⟨List.mem_append_right _ (List.mem_of_getElem? (i := 223) (by rfl)), by rfl⟩
theorem i_im_M_different : Cond.instanceMethod y_M_different ∈ gT := List.mem_filter.mpr ⟨List.mem_append_right _ (List.mem_of_getElem? (i := 221) (by decide +kernel)), by decide +kernel⟩
theorem i_sl_M_different : Cond.selects R_M y_M_different y_M_different ∈ gT := List.mem_filter.mpr ⟨List.mem_append_right _ (List.mem_of_getElem? (i := 222) (by decide +kernel)), by decide +kernel⟩
theorem f_M_different : gY R_M y_M_different b_M_different 3 (some .int) 0 := ⟨i_im_M_different, i_sl_M_different, i_init_M, i_code_M_different, by decide +kernel⟩
theorem i_code_M_compare : Cond.code y_M_compare b_M_compare 3 (some .int) ∈ gT := List.mem_filter.mpr ⟨List.mem_append_right _ (List.mem_of_getElem? (i := 228) (by rfl)), by rfl⟩
theorem i_im_M_compare : Cond.instanceMethod y_M_compare ∈ gT := List.mem_filter.mpr ⟨List.mem_append_right _ (List.mem_of_getElem? (i := 226) (by decide +kernel)), by decide +kernel⟩
theorem i_sl_M_compare : Cond.selects R_M y_M_compare y_M_compare ∈ gT := List.mem_filter.mpr ⟨List.mem_append_right _ (List.mem_of_getElem? (i := 227) (by decide +kernel)), by decide +kernel⟩
theorem f_M_compare : gY R_M y_M_compare b_M_compare 3 (some .int) 2 := ⟨i_im_M_compare, i_sl_M_compare, i_init_M, i_code_M_compare, by decide +kernel⟩
theorem i_code_M_distance : Cond.code y_M_distance b_M_distance 7 (some .int) ∈ gT := List.mem_filter.mpr ⟨List.mem_append_right _ (List.mem_of_getElem? (i := 240) (by rfl)), by rfl⟩
theorem i_im_M_distance : Cond.instanceMethod y_M_distance ∈ gT := List.mem_filter.mpr ⟨List.mem_append_right _ (List.mem_of_getElem? (i := 239) (by decide +kernel)), by decide +kernel⟩
theorem i_sl_M_distance : Cond.selects R_M y_M_distance y_M_distance ∈ gT := List.mem_filter.mpr ⟨List.mem_append_left _ (List.mem_of_getElem? (i := 20) (by decide +kernel)), by decide +kernel⟩
theorem f_M_distance : gY R_M y_M_distance b_M_distance 7 (some .int) 2 := ⟨i_im_M_distance, i_sl_M_distance, i_init_M, i_code_M_distance, by decide +kernel⟩
theorem i_code_M_apart : Cond.code y_M_apart b_M_apart 2 (some .int) ∈ gT := List.mem_filter.mpr ⟨List.mem_append_right _ (List.mem_of_getElem? (i := 232) (by rfl)), by rfl⟩
theorem i_im_M_apart : Cond.instanceMethod y_M_apart ∈ gT := List.mem_filter.mpr ⟨List.mem_append_right _ (List.mem_of_getElem? (i := 230) (by decide +kernel)), by decide +kernel⟩
theorem i_sl_M_apart : Cond.selects R_M y_M_apart y_M_apart ∈ gT := List.mem_filter.mpr ⟨List.mem_append_right _ (List.mem_of_getElem? (i := 231) (by decide +kernel)), by decide +kernel⟩
theorem f_M_apart : gY R_M y_M_apart b_M_apart 2 (some .int) 1 := ⟨i_im_M_apart, i_sl_M_apart, i_init_M, i_code_M_apart, by decide +kernel⟩
theorem i_code_M_nearest : Cond.code y_M_nearest b_M_nearest 5 (some .int) ∈ gT := List.mem_filter.mpr ⟨List.mem_append_right _ (List.mem_of_getElem? (i := 244) (by rfl)), by rfl⟩
theorem i_im_M_nearest : Cond.instanceMethod y_M_nearest ∈ gT := List.mem_filter.mpr ⟨List.mem_append_right _ (List.mem_of_getElem? (i := 242) (by decide +kernel)), by decide +kernel⟩
theorem i_sl_M_nearest : Cond.selects R_M y_M_nearest y_M_nearest ∈ gT := List.mem_filter.mpr ⟨List.mem_append_right _ (List.mem_of_getElem? (i := 243) (by decide +kernel)), by decide +kernel⟩
theorem f_M_nearest : gY R_M y_M_nearest b_M_nearest 5 (some .int) 0 := ⟨i_im_M_nearest, i_sl_M_nearest, i_init_M, i_code_M_nearest, by decide +kernel⟩
theorem i_code_M_plain : Cond.code y_M_plain b_M_plain 1 (some .int) ∈ gT := List.mem_filter.mpr ⟨List.mem_append_right _ (List.mem_of_getElem? (i := 248) (by rfl)), by rfl⟩
theorem i_im_M_plain : Cond.instanceMethod y_M_plain ∈ gT := List.mem_filter.mpr ⟨List.mem_append_right _ (List.mem_of_getElem? (i := 246) (by decide +kernel)), by decide +kernel⟩
theorem i_sl_M_plain : Cond.selects R_M y_M_plain y_M_plain ∈ gT := List.mem_filter.mpr ⟨List.mem_append_right _ (List.mem_of_getElem? (i := 247) (by decide +kernel)), by decide +kernel⟩
theorem f_M_plain : gY R_M y_M_plain b_M_plain 1 (some .int) 0 := ⟨i_im_M_plain, i_sl_M_plain, i_init_M, i_code_M_plain, by decide +kernel⟩
theorem lm_X_objectInit : Cond.methodLink R_X 3 objectInit ∈ gT := List.mem_filter.mpr ⟨List.mem_append_right _ (List.mem_of_getElem? (i := 11) (by decide +kernel)), by decide +kernel⟩
theorem lm_X_putFour : Cond.methodLink R_X 30 y_X_putFour ∈ gT := List.mem_filter.mpr ⟨List.mem_append_right _ (List.mem_of_getElem? (i := 39) (by decide +kernel)), by decide +kernel⟩
theorem lm_X_isSign : Cond.methodLink R_X 34 y_X_isSign ∈ gT := List.mem_filter.mpr ⟨List.mem_append_right _ (List.mem_of_getElem? (i := 54) (by decide +kernel)), by decide +kernel⟩
theorem lm_X_addTerm : Cond.methodLink R_X 38 y_X_addTerm ∈ gT := List.mem_filter.mpr ⟨List.mem_append_right _ (List.mem_of_getElem? (i := 57) (by decide +kernel)), by decide +kernel⟩
theorem lm_X_hasTerm : Cond.methodLink R_X 42 y_X_hasTerm ∈ gT := List.mem_filter.mpr ⟨List.mem_append_right _ (List.mem_of_getElem? (i := 87) (by decide +kernel)), by decide +kernel⟩
theorem lm_X_signAt : Cond.methodLink R_X 46 y_X_signAt ∈ gT := List.mem_filter.mpr ⟨List.mem_append_right _ (List.mem_of_getElem? (i := 91) (by decide +kernel)), by decide +kernel⟩
theorem lm_X_firstSame : Cond.methodLink R_X 50 y_X_firstSame ∈ gT := List.mem_filter.mpr ⟨List.mem_append_right _ (List.mem_of_getElem? (i := 99) (by decide +kernel)), by decide +kernel⟩
theorem lm_X_order : Cond.methodLink R_X 54 y_X_order ∈ gT := List.mem_filter.mpr ⟨List.mem_append_right _ (List.mem_of_getElem? (i := 103) (by decide +kernel)), by decide +kernel⟩
theorem lm_X_takeTapeTerm : Cond.methodLink R_X 57 y_X_takeTapeTerm ∈ gT := List.mem_filter.mpr ⟨List.mem_append_right _ (List.mem_of_getElem? (i := 122) (by decide +kernel)), by decide +kernel⟩
theorem lm_X_distance : Cond.methodLink R_X 61 y_X_distance ∈ gT := List.mem_filter.mpr ⟨List.mem_append_right _ (List.mem_of_getElem? (i := 130) (by decide +kernel)), by decide +kernel⟩
theorem lm_X_tapeIsWord : Cond.methodLink R_X 64 y_X_tapeIsWord ∈ gT := List.mem_filter.mpr ⟨List.mem_append_right _ (List.mem_of_getElem? (i := 126) (by decide +kernel)), by decide +kernel⟩
theorem lm_X_writeSigns : Cond.methodLink R_X 67 y_X_writeSigns ∈ gT := List.mem_filter.mpr ⟨List.mem_append_right _ (List.mem_of_getElem? (i := 69) (by decide +kernel)), by decide +kernel⟩
theorem lm_X_small : Cond.methodLink R_X 71 y_X_small ∈ gT := List.mem_filter.mpr ⟨List.mem_append_right _ (List.mem_of_getElem? (i := 43) (by decide +kernel)), by decide +kernel⟩
theorem lm_X_writeTerm : Cond.methodLink R_X 75 y_X_writeTerm ∈ gT := List.mem_filter.mpr ⟨List.mem_append_right _ (List.mem_of_getElem? (i := 61) (by decide +kernel)), by decide +kernel⟩
theorem lm_X_endsWithIes : Cond.methodLink R_X 78 y_X_endsWithIes ∈ gT := List.mem_filter.mpr ⟨List.mem_append_right _ (List.mem_of_getElem? (i := 65) (by decide +kernel)), by decide +kernel⟩
theorem lm_X_endsWithLooseS : Cond.methodLink R_X 81 y_X_endsWithLooseS ∈ gT := List.mem_filter.mpr ⟨List.mem_append_right _ (List.mem_of_getElem? (i := 79) (by decide +kernel)), by decide +kernel⟩
theorem lm_X_Math_min : Cond.methodLink R_X 84 Lib.Math.min.name ∈ gT := List.mem_filter.mpr ⟨List.mem_append_right _ (List.mem_of_getElem? (i := 73) (by decide +kernel)), by decide +kernel⟩
theorem lm_X_System_arraycopy : Cond.methodLink R_X 89 arraycopyName ∈ gT := List.mem_filter.mpr ⟨List.mem_append_right _ (List.mem_of_getElem? (i := 76) (by decide +kernel)), by decide +kernel⟩
theorem lm_X_Integer_compare : Cond.methodLink R_X 95 y_Integer_compare ∈ gT := List.mem_filter.mpr ⟨List.mem_append_right _ (List.mem_of_getElem? (i := 107) (by decide +kernel)), by decide +kernel⟩
theorem lm_M_objectInit : Cond.methodLink R_M 1 objectInit ∈ gT := List.mem_filter.mpr ⟨List.mem_append_right _ (List.mem_of_getElem? (i := 147) (by decide +kernel)), by decide +kernel⟩
theorem lm_M_put : Cond.methodLink R_M 30 y_M_put ∈ gT := List.mem_filter.mpr ⟨List.mem_append_right _ (List.mem_of_getElem? (i := 177) (by decide +kernel)), by decide +kernel⟩
theorem lm_M_letter : Cond.methodLink R_M 37 y_M_letter ∈ gT := List.mem_filter.mpr ⟨List.mem_append_right _ (List.mem_of_getElem? (i := 189) (by decide +kernel)), by decide +kernel⟩
theorem lm_M_last : Cond.methodLink R_M 41 y_M_last ∈ gT := List.mem_filter.mpr ⟨List.mem_append_right _ (List.mem_of_getElem? (i := 200) (by decide +kernel)), by decide +kernel⟩
theorem lm_M_run : Cond.methodLink R_M 45 y_M_run ∈ gT := List.mem_filter.mpr ⟨List.mem_append_right _ (List.mem_of_getElem? (i := 192) (by decide +kernel)), by decide +kernel⟩
theorem lm_M_note : Cond.methodLink R_M 51 y_M_note ∈ gT := List.mem_filter.mpr ⟨List.mem_append_right _ (List.mem_of_getElem? (i := 196) (by decide +kernel)), by decide +kernel⟩
theorem lm_M_is : Cond.methodLink R_M 55 y_M_is ∈ gT := List.mem_filter.mpr ⟨List.mem_append_right _ (List.mem_of_getElem? (i := 208) (by decide +kernel)), by decide +kernel⟩
theorem lm_M_order : Cond.methodLink R_M 58 y_M_order ∈ gT := List.mem_filter.mpr ⟨List.mem_append_right _ (List.mem_of_getElem? (i := 216) (by decide +kernel)), by decide +kernel⟩
theorem lm_M_first : Cond.methodLink R_M 62 y_M_first ∈ gT := List.mem_filter.mpr ⟨List.mem_append_right _ (List.mem_of_getElem? (i := 224) (by decide +kernel)), by decide +kernel⟩
theorem lm_M_oneWord : Cond.methodLink R_M 65 y_M_oneWord ∈ gT := List.mem_filter.mpr ⟨List.mem_append_right _ (List.mem_of_getElem? (i := 233) (by decide +kernel)), by decide +kernel⟩
theorem lm_M_distance : Cond.methodLink R_M 69 y_M_distance ∈ gT := List.mem_filter.mpr ⟨List.mem_append_right _ (List.mem_of_getElem? (i := 237) (by decide +kernel)), by decide +kernel⟩
theorem i_clink_X : Cond.classLink "WordTermsLaw" 7 R_X ∈ gT := List.mem_filter.mpr ⟨List.mem_append_right _ (List.mem_of_getElem? (i := 6) (by decide +kernel)), by decide +kernel⟩
theorem lm_L_X_init : Cond.methodLink "WordTermsLaw" 9 y_X_init ∈ gT := List.mem_filter.mpr ⟨List.mem_append_right _ (List.mem_of_getElem? (i := 8) (by decide +kernel)), by decide +kernel⟩
theorem i_clink_M : Cond.classLink "WordTermsLaw" 10 R_M ∈ gT := List.mem_filter.mpr ⟨List.mem_append_right _ (List.mem_of_getElem? (i := 142) (by decide +kernel)), by decide +kernel⟩
theorem lm_L_M_init : Cond.methodLink "WordTermsLaw" 12 y_M_init ∈ gT := List.mem_filter.mpr ⟨List.mem_append_right _ (List.mem_of_getElem? (i := 144) (by decide +kernel)), by decide +kernel⟩
theorem lm_L_X_feed : Cond.methodLink "WordTermsLaw" 13 y_X_feed ∈ gT := List.mem_filter.mpr ⟨List.mem_append_right _ (List.mem_of_getElem? (i := 35) (by decide +kernel)), by decide +kernel⟩
theorem lm_L_M_feed : Cond.methodLink "WordTermsLaw" 17 y_M_feed ∈ gT := List.mem_filter.mpr ⟨List.mem_append_right _ (List.mem_of_getElem? (i := 173) (by decide +kernel)), by decide +kernel⟩
theorem lm_L_X_end : Cond.methodLink "WordTermsLaw" 18 y_X_end ∈ gT := List.mem_filter.mpr ⟨List.mem_append_right _ (List.mem_of_getElem? (i := 46) (by decide +kernel)), by decide +kernel⟩
theorem lm_L_M_end : Cond.methodLink "WordTermsLaw" 22 y_M_end ∈ gT := List.mem_filter.mpr ⟨List.mem_append_right _ (List.mem_of_getElem? (i := 181) (by decide +kernel)), by decide +kernel⟩
theorem lm_L_X_read : Cond.methodLink "WordTermsLaw" 23 y_X_read ∈ gT := List.mem_filter.mpr ⟨List.mem_append_right _ (List.mem_of_getElem? (i := 50) (by decide +kernel)), by decide +kernel⟩
theorem lm_L_M_read : Cond.methodLink "WordTermsLaw" 27 y_M_read ∈ gT := List.mem_filter.mpr ⟨List.mem_append_right _ (List.mem_of_getElem? (i := 185) (by decide +kernel)), by decide +kernel⟩
theorem lm_L_X_sign : Cond.methodLink "WordTermsLaw" 28 y_X_sign ∈ gT := List.mem_filter.mpr ⟨List.mem_append_right _ (List.mem_of_getElem? (i := 83) (by decide +kernel)), by decide +kernel⟩
theorem lm_L_M_sign : Cond.methodLink "WordTermsLaw" 32 y_M_sign ∈ gT := List.mem_filter.mpr ⟨List.mem_append_right _ (List.mem_of_getElem? (i := 204) (by decide +kernel)), by decide +kernel⟩
theorem lm_L_X_different : Cond.methodLink "WordTermsLaw" 33 y_X_different ∈ gT := List.mem_filter.mpr ⟨List.mem_append_right _ (List.mem_of_getElem? (i := 95) (by decide +kernel)), by decide +kernel⟩
theorem lm_L_M_different : Cond.methodLink "WordTermsLaw" 36 y_M_different ∈ gT := List.mem_filter.mpr ⟨List.mem_append_right _ (List.mem_of_getElem? (i := 220) (by decide +kernel)), by decide +kernel⟩
theorem lm_L_X_first : Cond.methodLink "WordTermsLaw" 37 y_X_first ∈ gT := List.mem_filter.mpr ⟨List.mem_append_right _ (List.mem_of_getElem? (i := 110) (by decide +kernel)), by decide +kernel⟩
theorem lm_L_M_first : Cond.methodLink "WordTermsLaw" 40 y_M_first ∈ gT := List.mem_filter.mpr ⟨List.mem_append_right _ (List.mem_of_getElem? (i := 212) (by decide +kernel)), by decide +kernel⟩
theorem lm_L_X_compare : Cond.methodLink "WordTermsLaw" 41 y_X_compare ∈ gT := List.mem_filter.mpr ⟨List.mem_append_right _ (List.mem_of_getElem? (i := 114) (by decide +kernel)), by decide +kernel⟩
theorem lm_L_M_compare : Cond.methodLink "WordTermsLaw" 44 y_M_compare ∈ gT := List.mem_filter.mpr ⟨List.mem_append_right _ (List.mem_of_getElem? (i := 225) (by decide +kernel)), by decide +kernel⟩
theorem lm_L_X_apart : Cond.methodLink "WordTermsLaw" 45 y_X_apart ∈ gT := List.mem_filter.mpr ⟨List.mem_append_right _ (List.mem_of_getElem? (i := 118) (by decide +kernel)), by decide +kernel⟩
theorem lm_L_M_apart : Cond.methodLink "WordTermsLaw" 48 y_M_apart ∈ gT := List.mem_filter.mpr ⟨List.mem_append_right _ (List.mem_of_getElem? (i := 229) (by decide +kernel)), by decide +kernel⟩
theorem lm_L_X_nearest : Cond.methodLink "WordTermsLaw" 49 y_X_nearest ∈ gT := List.mem_filter.mpr ⟨List.mem_append_right _ (List.mem_of_getElem? (i := 134) (by decide +kernel)), by decide +kernel⟩
theorem lm_L_M_nearest : Cond.methodLink "WordTermsLaw" 52 y_M_nearest ∈ gT := List.mem_filter.mpr ⟨List.mem_append_right _ (List.mem_of_getElem? (i := 241) (by decide +kernel)), by decide +kernel⟩
theorem lm_L_X_plain : Cond.methodLink "WordTermsLaw" 53 y_X_plain ∈ gT := List.mem_filter.mpr ⟨List.mem_append_right _ (List.mem_of_getElem? (i := 138) (by decide +kernel)), by decide +kernel⟩
theorem lm_L_M_plain : Cond.methodLink "WordTermsLaw" 56 y_M_plain ∈ gT := List.mem_filter.mpr ⟨List.mem_append_right _ (List.mem_of_getElem? (i := 245) (by decide +kernel)), by decide +kernel⟩
