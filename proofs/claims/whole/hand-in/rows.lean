section
-- ===== PART A: goes FIRST, ahead of the names: the tables' words, and 'selects' of the private methods out of them =====
/-- a private method of a class that the tables say can be made, by its rows of tables_1 -/
def lw_okq (q : MethodName × Nat) : Prop := (q.1.cls ≠ "java/lang/invoke/MethodHandle" ∧ q.1.cls ≠ "java/lang/invoke/VarHandle") ∧ Cond.instantiable q.1.cls q.2 ∈ tables_1 ∧ Cond.privateMethod q.1 ∈ tables_1 ∧ Cond.instanceMethod q.1 ∈ tables_1
theorem lw_p0 : lw_okq (⟨"WordTerms", "putFour", "(I)V"⟩, 6) := ⟨⟨by decide +kernel, by decide +kernel⟩, List.mem_of_getElem? (i := 7) (by decide +kernel), List.mem_of_getElem? (i := 40) (by decide +kernel), List.mem_of_getElem? (i := 41) (by decide +kernel)⟩
theorem lw_p1 : lw_okq (⟨"WordTerms", "addTerm", "(II)V"⟩, 6) := ⟨⟨by decide +kernel, by decide +kernel⟩, List.mem_of_getElem? (i := 7) (by decide +kernel), List.mem_of_getElem? (i := 58) (by decide +kernel), List.mem_of_getElem? (i := 59) (by decide +kernel)⟩
theorem lw_p2 : lw_okq (⟨"WordTerms", "writeTerm", "(III)V"⟩, 6) := ⟨⟨by decide +kernel, by decide +kernel⟩, List.mem_of_getElem? (i := 7) (by decide +kernel), List.mem_of_getElem? (i := 62) (by decide +kernel), List.mem_of_getElem? (i := 63) (by decide +kernel)⟩
theorem lw_p3 : lw_okq (⟨"WordTerms", "endsWithIes", "(I)Z"⟩, 6) := ⟨⟨by decide +kernel, by decide +kernel⟩, List.mem_of_getElem? (i := 7) (by decide +kernel), List.mem_of_getElem? (i := 66) (by decide +kernel), List.mem_of_getElem? (i := 67) (by decide +kernel)⟩
theorem lw_p4 : lw_okq (⟨"WordTerms", "writeSigns", "(III)V"⟩, 6) := ⟨⟨by decide +kernel, by decide +kernel⟩, List.mem_of_getElem? (i := 7) (by decide +kernel), List.mem_of_getElem? (i := 70) (by decide +kernel), List.mem_of_getElem? (i := 71) (by decide +kernel)⟩
theorem lw_p5 : lw_okq (⟨"WordTerms", "endsWithLooseS", "(I)Z"⟩, 6) := ⟨⟨by decide +kernel, by decide +kernel⟩, List.mem_of_getElem? (i := 7) (by decide +kernel), List.mem_of_getElem? (i := 80) (by decide +kernel), List.mem_of_getElem? (i := 81) (by decide +kernel)⟩
theorem lw_p6 : lw_okq (⟨"WordTerms", "hasTerm", "(I)Z"⟩, 6) := ⟨⟨by decide +kernel, by decide +kernel⟩, List.mem_of_getElem? (i := 7) (by decide +kernel), List.mem_of_getElem? (i := 88) (by decide +kernel), List.mem_of_getElem? (i := 89) (by decide +kernel)⟩
theorem lw_p7 : lw_okq (⟨"WordTerms", "signAt", "(II)I"⟩, 6) := ⟨⟨by decide +kernel, by decide +kernel⟩, List.mem_of_getElem? (i := 7) (by decide +kernel), List.mem_of_getElem? (i := 92) (by decide +kernel), List.mem_of_getElem? (i := 93) (by decide +kernel)⟩
theorem lw_p8 : lw_okq (⟨"WordTerms", "firstSame", "(I)I"⟩, 6) := ⟨⟨by decide +kernel, by decide +kernel⟩, List.mem_of_getElem? (i := 7) (by decide +kernel), List.mem_of_getElem? (i := 100) (by decide +kernel), List.mem_of_getElem? (i := 101) (by decide +kernel)⟩
theorem lw_p9 : lw_okq (⟨"WordTerms", "order", "(II)I"⟩, 6) := ⟨⟨by decide +kernel, by decide +kernel⟩, List.mem_of_getElem? (i := 7) (by decide +kernel), List.mem_of_getElem? (i := 104) (by decide +kernel), List.mem_of_getElem? (i := 105) (by decide +kernel)⟩
theorem lw_p10 : lw_okq (⟨"WordTerms", "takeTapeTerm", "()Z"⟩, 6) := ⟨⟨by decide +kernel, by decide +kernel⟩, List.mem_of_getElem? (i := 7) (by decide +kernel), List.mem_of_getElem? (i := 123) (by decide +kernel), List.mem_of_getElem? (i := 124) (by decide +kernel)⟩
theorem lw_p11 : lw_okq (⟨"WordTerms", "tapeIsWord", "()Z"⟩, 6) := ⟨⟨by decide +kernel, by decide +kernel⟩, List.mem_of_getElem? (i := 7) (by decide +kernel), List.mem_of_getElem? (i := 127) (by decide +kernel), List.mem_of_getElem? (i := 128) (by decide +kernel)⟩
theorem lw_p12 : lw_okq (⟨"WordTerms", "distance", "(II)I"⟩, 6) := ⟨⟨by decide +kernel, by decide +kernel⟩, List.mem_of_getElem? (i := 7) (by decide +kernel), List.mem_of_getElem? (i := 131) (by decide +kernel), List.mem_of_getElem? (i := 132) (by decide +kernel)⟩
theorem lw_p13 : lw_okq (⟨"WordTermsModel", "put", "(I)V"⟩, 8) := ⟨⟨by decide +kernel, by decide +kernel⟩, List.mem_of_getElem? (i := 143) (by decide +kernel), List.mem_of_getElem? (i := 178) (by decide +kernel), List.mem_of_getElem? (i := 179) (by decide +kernel)⟩
theorem lw_p14 : lw_okq (⟨"WordTermsModel", "run", "(I)I"⟩, 8) := ⟨⟨by decide +kernel, by decide +kernel⟩, List.mem_of_getElem? (i := 143) (by decide +kernel), List.mem_of_getElem? (i := 193) (by decide +kernel), List.mem_of_getElem? (i := 194) (by decide +kernel)⟩
theorem lw_p15 : lw_okq (⟨"WordTermsModel", "note", "(IZ)V"⟩, 8) := ⟨⟨by decide +kernel, by decide +kernel⟩, List.mem_of_getElem? (i := 143) (by decide +kernel), List.mem_of_getElem? (i := 197) (by decide +kernel), List.mem_of_getElem? (i := 198) (by decide +kernel)⟩
def lw_privs_1 : List (MethodName × Nat) := [(⟨"WordTerms", "putFour", "(I)V"⟩, 6), (⟨"WordTerms", "addTerm", "(II)V"⟩, 6), (⟨"WordTerms", "writeTerm", "(III)V"⟩, 6), (⟨"WordTerms", "endsWithIes", "(I)Z"⟩, 6), (⟨"WordTerms", "writeSigns", "(III)V"⟩, 6), (⟨"WordTerms", "endsWithLooseS", "(I)Z"⟩, 6), (⟨"WordTerms", "hasTerm", "(I)Z"⟩, 6), (⟨"WordTerms", "signAt", "(II)I"⟩, 6), (⟨"WordTerms", "firstSame", "(I)I"⟩, 6), (⟨"WordTerms", "order", "(II)I"⟩, 6), (⟨"WordTerms", "takeTapeTerm", "()Z"⟩, 6), (⟨"WordTerms", "tapeIsWord", "()Z"⟩, 6), (⟨"WordTerms", "distance", "(II)I"⟩, 6), (⟨"WordTermsModel", "put", "(I)V"⟩, 8), (⟨"WordTermsModel", "run", "(I)I"⟩, 8), (⟨"WordTermsModel", "note", "(IZ)V"⟩, 8)]
theorem lw_r1 : ∀ q ∈ lw_privs_1, lw_okq q := List.forall_mem_cons.mpr ⟨lw_p0, List.forall_mem_cons.mpr ⟨lw_p1, List.forall_mem_cons.mpr ⟨lw_p2, List.forall_mem_cons.mpr ⟨lw_p3, List.forall_mem_cons.mpr ⟨lw_p4, List.forall_mem_cons.mpr ⟨lw_p5, List.forall_mem_cons.mpr ⟨lw_p6, List.forall_mem_cons.mpr ⟨lw_p7, List.forall_mem_cons.mpr ⟨lw_p8, List.forall_mem_cons.mpr ⟨lw_p9, List.forall_mem_cons.mpr ⟨lw_p10, List.forall_mem_cons.mpr ⟨lw_p11, List.forall_mem_cons.mpr ⟨lw_p12, List.forall_mem_cons.mpr ⟨lw_p13, List.forall_mem_cons.mpr ⟨lw_p14, List.forall_mem_cons.mpr ⟨lw_p15, fun _ h => absurd h List.not_mem_nil⟩⟩⟩⟩⟩⟩⟩⟩⟩⟩⟩⟩⟩⟩⟩⟩
theorem lw_p16 : lw_okq (⟨"WordTermsModel", "last", "(I)I"⟩, 8) := ⟨⟨by decide +kernel, by decide +kernel⟩, List.mem_of_getElem? (i := 143) (by decide +kernel), List.mem_of_getElem? (i := 201) (by decide +kernel), List.mem_of_getElem? (i := 202) (by decide +kernel)⟩
theorem lw_p17 : lw_okq (⟨"WordTermsModel", "is", "(I)Z"⟩, 8) := ⟨⟨by decide +kernel, by decide +kernel⟩, List.mem_of_getElem? (i := 143) (by decide +kernel), List.mem_of_getElem? (i := 209) (by decide +kernel), List.mem_of_getElem? (i := 210) (by decide +kernel)⟩
theorem lw_p18 : lw_okq (⟨"WordTermsModel", "order", "(II)I"⟩, 8) := ⟨⟨by decide +kernel, by decide +kernel⟩, List.mem_of_getElem? (i := 143) (by decide +kernel), List.mem_of_getElem? (i := 217) (by decide +kernel), List.mem_of_getElem? (i := 218) (by decide +kernel)⟩
theorem lw_p19 : lw_okq (⟨"WordTermsModel", "oneWord", "()Z"⟩, 8) := ⟨⟨by decide +kernel, by decide +kernel⟩, List.mem_of_getElem? (i := 143) (by decide +kernel), List.mem_of_getElem? (i := 234) (by decide +kernel), List.mem_of_getElem? (i := 235) (by decide +kernel)⟩
theorem lw_p20 : lw_okq (⟨"WordTermsModel", "distance", "(II)I"⟩, 8) := ⟨⟨by decide +kernel, by decide +kernel⟩, List.mem_of_getElem? (i := 143) (by decide +kernel), List.mem_of_getElem? (i := 238) (by decide +kernel), List.mem_of_getElem? (i := 239) (by decide +kernel)⟩
def lw_privs_2 : List (MethodName × Nat) := [(⟨"WordTermsModel", "last", "(I)I"⟩, 8), (⟨"WordTermsModel", "is", "(I)Z"⟩, 8), (⟨"WordTermsModel", "order", "(II)I"⟩, 8), (⟨"WordTermsModel", "oneWord", "()Z"⟩, 8), (⟨"WordTermsModel", "distance", "(II)I"⟩, 8)]
theorem lw_r2 : ∀ q ∈ lw_privs_2, lw_okq q := List.forall_mem_cons.mpr ⟨lw_p16, List.forall_mem_cons.mpr ⟨lw_p17, List.forall_mem_cons.mpr ⟨lw_p18, List.forall_mem_cons.mpr ⟨lw_p19, List.forall_mem_cons.mpr ⟨lw_p20, fun _ h => absurd h List.not_mem_nil⟩⟩⟩⟩⟩
def lw_privs : List (MethodName × Nat) := lw_privs_1 ++ (lw_privs_2)
def lw_tbl : List Cond := k2_sels lw_privs ++ tables_1
theorem lw_privs_ok : ∀ q ∈ lw_privs, lw_okq q := by
  show ∀ q ∈ lw_privs_1 ++ (lw_privs_2), lw_okq q
  exact List.forall_mem_append.mpr ⟨lw_r1, lw_r2⟩
end
section
def R_X : String := "WordTerms"
def F_X : u_T := fun k => match k with
  | 0 => ("WordTerms", "tape", "[B", true)
  | 1 => ("WordTerms", "tapeLength", "I", false)
  | 2 => ("WordTerms", "signs", "[B", true)
  | 3 => ("WordTerms", "lengths", "[I", true)
  | 4 => ("WordTerms", "termCount", "I", false)
  | _ => ("WordTerms", "distances", "[I", true)
def t_X : Nat → FieldType := fun k => match k with
  | 0 => .array .byte
  | 1 => .int
  | 2 => .array .byte
  | 3 => .array .int
  | 4 => .int
  | _ => .array .int
theorem n_X : ∀ a, a < 6 → ∀ b, b < 6 → a ≠ b → (F_X a).2.1 ≠ (F_X b).2.1 := by decide +kernel
theorem t_X_ok : ∀ k, k < 6 → parseFieldDescriptor (F_X k).2.2.1 = some (t_X k) := by decide +kernel
def R_M : String := "WordTermsModel"
def F_M : u_T := fun k => match k with
  | 0 => ("WordTermsModel", "tape", "[B", true)
  | 1 => ("WordTermsModel", "length", "I", false)
  | 2 => ("WordTermsModel", "terms", "[B", true)
  | 3 => ("WordTermsModel", "sizes", "[I", true)
  | 4 => ("WordTermsModel", "count", "I", false)
  | 5 => ("WordTermsModel", "word", "[B", true)
  | 6 => ("WordTermsModel", "wordLength", "I", false)
  | _ => ("WordTermsModel", "table", "[I", true)
def t_M : Nat → FieldType := fun k => match k with
  | 0 => .array .byte
  | 1 => .int
  | 2 => .array .byte
  | 3 => .array .int
  | 4 => .int
  | 5 => .array .byte
  | 6 => .int
  | _ => .array .int
theorem n_M : ∀ a, a < 8 → ∀ b, b < 8 → a ≠ b → (F_M a).2.1 ≠ (F_M b).2.1 := by decide +kernel
theorem t_M_ok : ∀ k, k < 8 → parseFieldDescriptor (F_M k).2.2.1 = some (t_M k) := by decide +kernel
abbrev classes : List vw_C := [(R_X, F_X, 6), (R_M, F_M, 8)]
abbrev b_X_init : ByteArray := prog_1_method_1_code
def y_X_init : MethodName := ⟨R_X, "<init>", "()V"⟩
abbrev b_X_feed : ByteArray := prog_1_method_2_code
def y_X_feed : MethodName := ⟨R_X, "feed", "(IIIII)I"⟩
abbrev b_X_end : ByteArray := prog_1_method_3_code
def y_X_end : MethodName := ⟨R_X, "end", "(I)I"⟩
abbrev b_X_read : ByteArray := prog_1_method_4_code
def y_X_read : MethodName := ⟨R_X, "read", "()I"⟩
abbrev b_X_sign : ByteArray := prog_1_method_5_code
def y_X_sign : MethodName := ⟨R_X, "sign", "(II)I"⟩
abbrev b_X_different : ByteArray := prog_1_method_6_code
def y_X_different : MethodName := ⟨R_X, "different", "()I"⟩
abbrev b_X_first : ByteArray := prog_1_method_7_code
def y_X_first : MethodName := ⟨R_X, "first", "(I)I"⟩
abbrev b_X_compare : ByteArray := prog_1_method_8_code
def y_X_compare : MethodName := ⟨R_X, "compare", "(II)I"⟩
abbrev b_X_apart : ByteArray := prog_1_method_9_code
def y_X_apart : MethodName := ⟨R_X, "apart", "(I)I"⟩
abbrev b_X_nearest : ByteArray := prog_1_method_10_code
def y_X_nearest : MethodName := ⟨R_X, "nearest", "()I"⟩
abbrev b_X_plain : ByteArray := prog_1_method_11_code
def y_X_plain : MethodName := ⟨R_X, "plain", "()I"⟩
abbrev b_X_putFour : ByteArray := prog_1_method_12_code
def y_X_putFour : MethodName := ⟨R_X, "putFour", "(I)V"⟩
abbrev b_X_small : ByteArray := prog_1_method_13_code
def y_X_small : MethodName := ⟨R_X, "small", "(B)B"⟩
abbrev b_X_isSign : ByteArray := prog_1_method_14_code
def y_X_isSign : MethodName := ⟨R_X, "isSign", "(B)Z"⟩
abbrev b_X_tapeIsWord : ByteArray := prog_1_method_15_code
def y_X_tapeIsWord : MethodName := ⟨R_X, "tapeIsWord", "()Z"⟩
abbrev b_X_takeTapeTerm : ByteArray := prog_1_method_16_code
def y_X_takeTapeTerm : MethodName := ⟨R_X, "takeTapeTerm", "()Z"⟩
abbrev b_X_addTerm : ByteArray := prog_1_method_17_code
def y_X_addTerm : MethodName := ⟨R_X, "addTerm", "(II)V"⟩
abbrev b_X_writeTerm : ByteArray := prog_1_method_18_code
def y_X_writeTerm : MethodName := ⟨R_X, "writeTerm", "(III)V"⟩
abbrev b_X_endsWithIes : ByteArray := prog_1_method_19_code
def y_X_endsWithIes : MethodName := ⟨R_X, "endsWithIes", "(I)Z"⟩
abbrev b_X_endsWithLooseS : ByteArray := prog_1_method_20_code
def y_X_endsWithLooseS : MethodName := ⟨R_X, "endsWithLooseS", "(I)Z"⟩
abbrev b_X_writeSigns : ByteArray := prog_1_method_21_code
def y_X_writeSigns : MethodName := ⟨R_X, "writeSigns", "(III)V"⟩
abbrev b_X_hasTerm : ByteArray := prog_1_method_22_code
def y_X_hasTerm : MethodName := ⟨R_X, "hasTerm", "(I)Z"⟩
abbrev b_X_signAt : ByteArray := prog_1_method_23_code
def y_X_signAt : MethodName := ⟨R_X, "signAt", "(II)I"⟩
abbrev b_X_firstSame : ByteArray := prog_1_method_24_code
def y_X_firstSame : MethodName := ⟨R_X, "firstSame", "(I)I"⟩
abbrev b_X_order : ByteArray := prog_1_method_25_code
def y_X_order : MethodName := ⟨R_X, "order", "(II)I"⟩
abbrev b_X_distance : ByteArray := prog_1_method_26_code
def y_X_distance : MethodName := ⟨R_X, "distance", "(II)I"⟩
abbrev b_M_init : ByteArray := prog_3_method_1_code
def y_M_init : MethodName := ⟨R_M, "<init>", "()V"⟩
abbrev b_M_put : ByteArray := prog_3_method_2_code
def y_M_put : MethodName := ⟨R_M, "put", "(I)V"⟩
abbrev b_M_feed : ByteArray := prog_3_method_3_code
def y_M_feed : MethodName := ⟨R_M, "feed", "(IIIII)I"⟩
abbrev b_M_end : ByteArray := prog_3_method_4_code
def y_M_end : MethodName := ⟨R_M, "end", "(I)I"⟩
abbrev b_M_letter : ByteArray := prog_3_method_5_code
def y_M_letter : MethodName := ⟨R_M, "letter", "(I)Z"⟩
abbrev b_M_run : ByteArray := prog_3_method_6_code
def y_M_run : MethodName := ⟨R_M, "run", "(I)I"⟩
abbrev b_M_last : ByteArray := prog_3_method_7_code
def y_M_last : MethodName := ⟨R_M, "last", "(I)I"⟩
abbrev b_M_note : ByteArray := prog_3_method_8_code
def y_M_note : MethodName := ⟨R_M, "note", "(IZ)V"⟩
abbrev b_M_oneWord : ByteArray := prog_3_method_9_code
def y_M_oneWord : MethodName := ⟨R_M, "oneWord", "()Z"⟩
abbrev b_M_read : ByteArray := prog_3_method_10_code
def y_M_read : MethodName := ⟨R_M, "read", "()I"⟩
abbrev b_M_is : ByteArray := prog_3_method_11_code
def y_M_is : MethodName := ⟨R_M, "is", "(I)Z"⟩
abbrev b_M_sign : ByteArray := prog_3_method_12_code
def y_M_sign : MethodName := ⟨R_M, "sign", "(II)I"⟩
abbrev b_M_order : ByteArray := prog_3_method_13_code
def y_M_order : MethodName := ⟨R_M, "order", "(II)I"⟩
abbrev b_M_first : ByteArray := prog_3_method_14_code
def y_M_first : MethodName := ⟨R_M, "first", "(I)I"⟩
abbrev b_M_different : ByteArray := prog_3_method_15_code
def y_M_different : MethodName := ⟨R_M, "different", "()I"⟩
abbrev b_M_compare : ByteArray := prog_3_method_16_code
def y_M_compare : MethodName := ⟨R_M, "compare", "(II)I"⟩
abbrev b_M_distance : ByteArray := prog_3_method_17_code
def y_M_distance : MethodName := ⟨R_M, "distance", "(II)I"⟩
abbrev b_M_apart : ByteArray := prog_3_method_18_code
def y_M_apart : MethodName := ⟨R_M, "apart", "(I)I"⟩
abbrev b_M_nearest : ByteArray := prog_3_method_19_code
def y_M_nearest : MethodName := ⟨R_M, "nearest", "()I"⟩
abbrev b_M_plain : ByteArray := prog_3_method_20_code
def y_M_plain : MethodName := ⟨R_M, "plain", "()I"⟩
abbrev b_Integer_compare : ByteArray := prog_4_method_40_code
def y_Integer_compare : MethodName := ⟨"java/lang/Integer", "compare", "(II)I"⟩
/-! A method's frame in my own words: gC what stays the same through a walk, gH the world now, gMi / gMv a contract over a world 'w u' (u its state), with start, end and call rows. -/
def gT : List Cond := lw_tbl.filter (fun w => k2_isCode w || goodWord w)
theorem lw_good : ∀ w ∈ gT, (w.onTables && w.keeps) = true ∨ ∃ ty, w = .arrayClass ty := by
  intro w hw
  have h1 : (k2_isCode w || goodWord w) = true := (List.mem_filter.mp hw).2
  rw [Bool.or_eq_true] at h1
  rcases h1 with h1 | h1
  · cases w <;> first | (simp [k2_isCode] at h1; done) | exact Or.inl rfl
  · exact good_of_word h1
theorem g_good {ws : List Cond} (h : ∀ w ∈ ws, w ∈ gT) : GoodIn gT ws := fun w hw => ⟨h w hw, lw_good w (h w hw)⟩
def gW (y : MethodName) (cc : ByteArray) (n : Nat) (ret : Option FieldType) : List Cond := .code y cc n ret :: gT
theorem gW_in {y : MethodName} {cc : ByteArray} {n : Nat} {ret : Option FieldType} (h : Cond.code y cc n ret ∈ gT) : ∀ w ∈ gW y cc n ret, w ∈ gT := fun w hw => by
  rcases List.mem_cons.mp hw with h1 | h1
  · rw [h1]; exact h
  · exact h1
/-- what the tables say of an instance method of class C -/
def gY (C : String) (y : MethodName) (cc : ByteArray) (n : Nat) (ret : Option FieldType) (k : Nat) : Prop :=
  Cond.instanceMethod y ∈ gT ∧ Cond.selects C y y ∈ gT ∧ Cond.initialized C ∈ gT ∧ Cond.code y cc n ret ∈ gT ∧ (y.cls = C ∧ y.cls ≠ "java/lang/invoke/MethodHandle" ∧ y.cls ≠ "java/lang/invoke/VarHandle" ∧ (parseMethodDescriptor y.desc).map (fun d => d.parameters.length) = some k)
/-- and of a static one -/
def gYs (y : MethodName) (cc : ByteArray) (n : Nat) (ret : Option FieldType) (k : Nat) : Prop :=
  Cond.static y ∈ gT ∧ Cond.initialized y.cls ∈ gT ∧ Cond.code y cc n ret ∈ gT ∧ (y.cls ≠ "java/lang/invoke/MethodHandle" ∧ y.cls ≠ "java/lang/invoke/VarHandle" ∧ (parseMethodDescriptor y.desc).map (fun d => d.parameters.length) = some k)
/-- a room of depth d -/
def gR (d : Nat) : Room := { frames := d, cells := 0, slots := 0, locals := 32 * d }
def gC (p : Program) (m : MethodId) (c : Code) (cc : ByteArray) (nL : Nat) (s : State) (args : Array Value) (own : String) (meth : Method) (ret : Option FieldType) (D : va_G) (ty : List (ClassId × FieldType)) (A : Nat → Prop) : Prop :=
  CallFix p m c cc nL s args gT own ∧ (meth.sig.returnType = ret ∧ meth.locks = false) ∧ va_K D classes ty s ∧ ∀ q, s.heap.size ≤ q → A q
def gH {S : Type} (D : va_G) (w : S → va_W) (A : Nat → Prop) (H0 : Heap) (u : S) (H : Heap) (locs : List Loc) : Prop := va_P D classes (w u) H ∧ va_D A (w u) ∧ va_S A H0 H locs
def gB {S : Type} (D : va_G) (ty : List (ClassId × FieldType)) (w : S → va_W) (A : Nat → Prop) (u : S) (t : State) : Prop := va_P D classes (w u) t.heap ∧ va_K D classes ty t ∧ va_D A (w u)
def gMi {S : Type} (l : Launch) (y : MethodName) (ws : List Cond) (rm : Room) (D : va_G) (ty : List (ClassId × FieldType)) (w : S → va_W) (as : List Value) (u : S) (post : Int32 → S → Prop) : Prop :=
  ∀ sz : Nat, Met l y ws rm (va_Pc as (fun U => U.heap.size = sz ∧ gB D ty w (fun _ => True) u U)) (va_Qi post (gB D ty w (va_A (w u) sz)) (va_A (w u) sz)) 0 0 (va_A (w u) sz)
def gMv {S : Type} (l : Launch) (y : MethodName) (ws : List Cond) (rm : Room) (D : va_G) (ty : List (ClassId × FieldType)) (w : S → va_W) (as : List Value) (u : S) (post : S → Prop) : Prop :=
  ∀ sz : Nat, Met l y ws rm (va_Pc as (fun U => U.heap.size = sz ∧ gB D ty w (fun _ => True) u U)) (va_Qv post (gB D ty w (va_A (w u) sz)) (va_A (w u) sz)) 0 0 (va_A (w u) sz)
section GRT
variable {S : Type} {p : Program} {l : Launch} {e : Env} {R : Room} {s : State} {m : MethodId} {args : Array Value} {below : List Frame} {meth : Method} {c : Code} {H : Heap} {locs : List Loc} {Q : State → Prop}
variable {cc : ByteArray} {nL pc : Nat} {ls : Array Slot} {own : String} {D : va_G} {ty : List (ClassId × FieldType)} {A : Nat → Prop} {w : S → va_W} {u : S}
theorem g_iret {rt : FieldType} {v : Int32} {post : Int32 → S → Prop} (hC : gC p m c cc nL s args own meth (some rt) D ty A) (hw : gH D w A s.heap u H locs) (hn : narrow rt (.int v) = .int v) (hp : post v u) (hdg : decode cc pc = .ok (.ireturn, 1)) :
    W p l e R s m args below meth c H locs 0 0 (MQ below (va_Qi post (gB D ty w A) A) args s 0 0 A) (F0 m pc ls [.int v]) := by
  obtain ⟨⟨hx, hb, -, -, -⟩, ⟨hr, hlk⟩, hK, -⟩ := hC
  obtain ⟨hP, hD, hS⟩ := hw
  exact W.zret (hlocks := hlk) hx hb hr hn (fun t ht hW => ⟨⟨v, u, rfl, hp, by rw [ht]; exact hP, va_K.moved hW.alike hK, hD⟩, hS.F ht⟩) hS.2.2 hdg
theorem g_vret {post : S → Prop} (hC : gC p m c cc nL s args own meth none D ty A) (hw : gH D w A s.heap u H locs) (hp : post u) (hdg : decode cc pc = .ok (.return_, 1)) :
    W p l e R s m args below meth c H locs 0 0 (MQ below (va_Qv post (gB D ty w A) A) args s 0 0 A) (F0 m pc ls []) := by
  obtain ⟨⟨hx, hb, -, -, -⟩, ⟨hr, hlk⟩, hK, -⟩ := hC
  obtain ⟨hP, hD, hS⟩ := hw
  exact W.vret (hlocks := hlk) hx hb hr (fun t ht hW => ⟨⟨u, rfl, hp, by rw [ht]; exact hP, va_K.moved hW.alike hK, hD⟩, hS.F ht⟩) hS.2.2 hdg
theorem g_top {cells slots : Nat} {x y : Int32} {rest : List Value} (h : x = y) (k : W p l e R s m args below meth c H locs cells slots Q (F0 m pc ls (.int y :: rest))) : W p l e R s m args below meth c H locs cells slots Q (F0 m pc ls (.int x :: rest)) := by
  subst h
  exact k
end GRT
/-- the return row of a walk towards Q -/
def gRi {S : Type} (p : Program) (l : Launch) (e : Env) (R : Room) (s : State) (m : MethodId) (args : Array Value) (below : List Frame) (meth : Method) (c : Code) (cc : ByteArray) (D : va_G) (w : S → va_W) (A : Nat → Prop) (rt : FieldType) (post : Int32 → S → Prop) (Q : State → Prop) : Prop :=
  ∀ (v : Int32) (u : S) (H : Heap) (locs : List Loc) (pc : Nat) (ls : Array Slot), gH D w A s.heap u H locs → narrow rt (.int v) = .int v → post v u → decode cc pc = .ok (.ireturn, 1) → W p l e R s m args below meth c H locs 0 0 Q (F0 m pc ls [.int v])
def gRv {S : Type} (p : Program) (l : Launch) (e : Env) (R : Room) (s : State) (m : MethodId) (args : Array Value) (below : List Frame) (meth : Method) (c : Code) (cc : ByteArray) (D : va_G) (w : S → va_W) (A : Nat → Prop) (post : S → Prop) (Q : State → Prop) : Prop :=
  ∀ (u : S) (H : Heap) (locs : List Loc) (pc : Nat) (ls : Array Slot), gH D w A s.heap u H locs → post u → decode cc pc = .ok (.return_, 1) → W p l e R s m args below meth c H locs 0 0 Q (F0 m pc ls [])
section GST
variable {S : Type} {l : Launch} {y : MethodName} {rm : Room} {D : va_G} {ty : List (ClassId × FieldType)} {w : S → va_W} {as : List Value} {u : S} {cc : ByteArray} {maxL : Nat}
theorem g_starti {rt : FieldType} {post : Int32 → S → Prop} (hy : plainName y.cls = true) (hlen : (lg_sl as).length ≤ maxL)
    (body : ∀ (p : Program) (e : Env) (s : State) (m : MethodId) (args : Array Value) (below : List Frame) (meth : Method) (c : Code) (A : Nat → Prop) (Q : State → Prop) (ls : Array Slot), gC p m c cc maxL s args y.cls meth (some rt) D ty A → gRi p l e rm s m args below meth c cc D w A rt post Q → lv_has ls maxL (lv_args 0 as) → gH D w A s.heap u s.heap [] → W p l e rm s m args below meth c s.heap [] 0 0 Q (F0 m 0 ls [])) : gMi l y (gW y cc maxL (some rt)) rm D ty w as u post := by
  intro sz
  refine Met.ofW (cc := cc) (maxL := maxL) (ret := some rt) hy rfl ?_
  intro p e s m args below meth c s₁ B hml hv
  obtain ⟨rfl, hsz, hP, hK, hD0⟩ := hv
  subst hsz
  have hl := lv_entry as (n := maxL) hlen
  have hts := atoms_spec (ws := gW y cc maxL (some rt)) B.pre
  rw [lg_entry_eq]
  have hC : gC p m c cc maxL s as.toArray y.cls meth (some rt) D ty (va_A (w u) s.heap.size) := ⟨⟨B.exec, B.bytes, hml, findClass_of_methodNamed B.named, fun w hw => hts w (List.mem_cons_of_mem _ hw)⟩, ⟨B.returns, B.notSynchronized⟩, hK, fun q h => Or.inr h⟩
  exact body p e s m _ below meth c _ _ _ hC (fun v u H locs pc ls hw hn hp hdg => g_iret hC hw hn hp hdg) hl ⟨hP, hD0.self, va_S.rf⟩
theorem g_startv {post : S → Prop} (hy : plainName y.cls = true) (hlen : (lg_sl as).length ≤ maxL)
    (body : ∀ (p : Program) (e : Env) (s : State) (m : MethodId) (args : Array Value) (below : List Frame) (meth : Method) (c : Code) (A : Nat → Prop) (Q : State → Prop) (ls : Array Slot), gC p m c cc maxL s args y.cls meth none D ty A → gRv p l e rm s m args below meth c cc D w A post Q → lv_has ls maxL (lv_args 0 as) → gH D w A s.heap u s.heap [] → W p l e rm s m args below meth c s.heap [] 0 0 Q (F0 m 0 ls [])) : gMv l y (gW y cc maxL none) rm D ty w as u post := by
  intro sz
  refine Met.ofW (cc := cc) (maxL := maxL) (ret := none) hy rfl ?_
  intro p e s m args below meth c s₁ B hml hv
  obtain ⟨rfl, hsz, hP, hK, hD0⟩ := hv
  subst hsz
  have hl := lv_entry as (n := maxL) hlen
  have hts := atoms_spec (ws := gW y cc maxL none) B.pre
  rw [lg_entry_eq]
  have hC : gC p m c cc maxL s as.toArray y.cls meth none D ty (va_A (w u) s.heap.size) := ⟨⟨B.exec, B.bytes, hml, findClass_of_methodNamed B.named, fun w hw => hts w (List.mem_cons_of_mem _ hw)⟩, ⟨B.returns, B.notSynchronized⟩, hK, fun q h => Or.inr h⟩
  exact body p e s m _ below meth c _ _ _ hC (fun u H locs pc ls hw hp hdg => g_vret hC hw hp hdg) hl ⟨hP, hD0.self, va_S.rf⟩
end GST
section GNC
variable {p : Program} {l : Launch} {e : Env} {R : Room} {s : State} {m : MethodId} {args : Array Value} {below : List Frame} {meth : Method} {c : Code} {H : Heap} {locs : List Loc} {cells slots : Nat} {Q : State → Prop}
variable {cc : ByteArray} {pc : Nat} {ls : Array Slot} {rest : List Value}
theorem nc_eq (hexec : p.tables.exec = Jvm.exec) (hb : c.code = cc) {a b : Nat} {off : Int} {tgt : Nat} (hdg : decode cc pc = .ok (.if_icmp .eq off, 3)) (ht : (pc : Int) + off = (tgt : Int)) (ha : a < 2 ^ 31) (hb2 : b < 2 ^ 31)
    (kt : a = b → W p l e R s m args below meth c H locs cells slots Q (F0 m tgt ls rest)) (kf : a ≠ b → W p l e R s m args below meth c H locs cells slots Q (F0 m (pc + 3) ls rest)) : W p l e R s m args below meth c H locs cells slots Q (F0 m pc ls (.int (nI b) :: .int (nI a) :: rest)) :=
  lv_icmp_eq hexec hb hdg ht (fun h => kt ((nI_eq ha hb2).mp h)) (fun h => kf (fun q => h ((nI_eq ha hb2).mpr q)))
theorem nc_ne (hexec : p.tables.exec = Jvm.exec) (hb : c.code = cc) {a b : Nat} {off : Int} {tgt : Nat} (hdg : decode cc pc = .ok (.if_icmp .ne off, 3)) (ht : (pc : Int) + off = (tgt : Int)) (ha : a < 2 ^ 31) (hb2 : b < 2 ^ 31)
    (kt : a ≠ b → W p l e R s m args below meth c H locs cells slots Q (F0 m tgt ls rest)) (kf : a = b → W p l e R s m args below meth c H locs cells slots Q (F0 m (pc + 3) ls rest)) : W p l e R s m args below meth c H locs cells slots Q (F0 m pc ls (.int (nI b) :: .int (nI a) :: rest)) :=
  lv_icmp_ne hexec hb hdg ht (fun h => kt (fun q => h ((nI_eq ha hb2).mpr q))) (fun h => kf ((nI_eq ha hb2).mp h))
theorem nc_lt (hexec : p.tables.exec = Jvm.exec) (hb : c.code = cc) {a b : Nat} {off : Int} {tgt : Nat} (hdg : decode cc pc = .ok (.if_icmp .lt off, 3)) (ht : (pc : Int) + off = (tgt : Int)) (ha : a < 2 ^ 31) (hb2 : b < 2 ^ 31)
    (kt : a < b → W p l e R s m args below meth c H locs cells slots Q (F0 m tgt ls rest)) (kf : b ≤ a → W p l e R s m args below meth c H locs cells slots Q (F0 m (pc + 3) ls rest)) : W p l e R s m args below meth c H locs cells slots Q (F0 m pc ls (.int (nI b) :: .int (nI a) :: rest)) :=
  lv_icmp_lt hexec hb hdg ht (fun h => kt ((nI_ltI ha hb2).mp h)) (fun h => kf (Nat.not_lt.mp (fun q => h ((nI_ltI ha hb2).mpr q))))
theorem nc_ge (hexec : p.tables.exec = Jvm.exec) (hb : c.code = cc) {a b : Nat} {off : Int} {tgt : Nat} (hdg : decode cc pc = .ok (.if_icmp .ge off, 3)) (ht : (pc : Int) + off = (tgt : Int)) (ha : a < 2 ^ 31) (hb2 : b < 2 ^ 31)
    (kt : b ≤ a → W p l e R s m args below meth c H locs cells slots Q (F0 m tgt ls rest)) (kf : a < b → W p l e R s m args below meth c H locs cells slots Q (F0 m (pc + 3) ls rest)) : W p l e R s m args below meth c H locs cells slots Q (F0 m pc ls (.int (nI b) :: .int (nI a) :: rest)) :=
  lv_icmp_ge hexec hb hdg ht (fun h => kt ((nI_leI hb2 ha).mp h)) (fun h => kf (Nat.not_le.mp (fun q => h ((nI_leI hb2 ha).mpr q))))
theorem nc_gt (hexec : p.tables.exec = Jvm.exec) (hb : c.code = cc) {a b : Nat} {off : Int} {tgt : Nat} (hdg : decode cc pc = .ok (.if_icmp .gt off, 3)) (ht : (pc : Int) + off = (tgt : Int)) (ha : a < 2 ^ 31) (hb2 : b < 2 ^ 31)
    (kt : b < a → W p l e R s m args below meth c H locs cells slots Q (F0 m tgt ls rest)) (kf : a ≤ b → W p l e R s m args below meth c H locs cells slots Q (F0 m (pc + 3) ls rest)) : W p l e R s m args below meth c H locs cells slots Q (F0 m pc ls (.int (nI b) :: .int (nI a) :: rest)) :=
  lv_icmp_gt hexec hb hdg ht (fun h => kt ((nI_ltI hb2 ha).mp h)) (fun h => kf (Nat.not_lt.mp (fun q => h ((nI_ltI hb2 ha).mpr q))))
theorem nc_le (hexec : p.tables.exec = Jvm.exec) (hb : c.code = cc) {a b : Nat} {off : Int} {tgt : Nat} (hdg : decode cc pc = .ok (.if_icmp .le off, 3)) (ht : (pc : Int) + off = (tgt : Int)) (ha : a < 2 ^ 31) (hb2 : b < 2 ^ 31)
    (kt : a ≤ b → W p l e R s m args below meth c H locs cells slots Q (F0 m tgt ls rest)) (kf : b < a → W p l e R s m args below meth c H locs cells slots Q (F0 m (pc + 3) ls rest)) : W p l e R s m args below meth c H locs cells slots Q (F0 m pc ls (.int (nI b) :: .int (nI a) :: rest)) :=
  lv_icmp_le hexec hb hdg ht (fun h => kt ((nI_leI ha hb2).mp h)) (fun h => kf (Nat.not_le.mp (fun q => h ((nI_leI ha hb2).mpr q))))
end GNC
theorem nI_i1 (a : Nat) : nI a + Int32.ofInt 1 = nI (a + 1) := by
  rw [show Int32.ofInt 1 = 1 by decide]
  exact nI_1 a
theorem nI_i6 (a : Nat) : nI a + Int32.ofInt 6 = nI (a + 6) := by
  rw [show Int32.ofInt 6 = nI 6 by decide]
  exact nI_add a 6
theorem n_m1 {a : Nat} (h : 1 ≤ a) : nI a + Int32.ofInt (-1) = nI (a - 1) := by
  rw [show Int32.ofInt (-1) = -1 by decide]
  exact sb_m1 h
theorem n_m2 {a : Nat} (h : 2 ≤ a) : nI a + Int32.ofInt (-2) = nI (a - 2) := by
  obtain ⟨b, rfl⟩ : ∃ b, a = b + 1 + 1 := ⟨a - 2, by omega⟩
  have e : Int32.ofInt (-2) = -1 + -1 := by decide
  rw [e, ← Int32.add_assoc, pk_m1, pk_m1]
  rfl
section GCL
variable {S : Type} {p : Program} {l : Launch} {e : Env} {R : Room} {s : State} {m : MethodId} {args : Array Value} {below : List Frame} {meth : Method} {c : Code} {H : Heap} {locs : List Loc} {Q : State → Prop}
variable {cc : ByteArray} {nL pc : Nat} {ls : Array Slot} {own : String} {D : va_G} {ty : List (ClassId × FieldType)} {A : Nat → Prop} {w : S → va_W} {u : S} {ret : Option FieldType}
variable {y : MethodName} {bytes : ByteArray} {maxL index n : Nat} {rt : Option FieldType} {rm : Room} {C : String} {as rest : List Value} {h : Nat}
theorem g_cwV (hts : ∀ w ∈ gT, w.before args s = true) (h1 : Cond.methodLink own index y ∈ gT) (hY : gY C y bytes maxL rt n) {mc ms : Nat} (hrc : rm.cells = mc) (hrs : rm.slots = ms) (hR : rm.frames + 1 ≤ R.frames ∧ 8 + (maxL + 11) + rm.locals ≤ R.locals) : CallW R s args own C index y bytes maxL rt (gW y bytes maxL rt) rm mc ms n := by
  obtain ⟨h2, h3, h4, h5, hd⟩ := hY
  refine cwV n hts (g_good ?_) rfl hrc hrs hd hR
  intro w hw
  rcases List.mem_append.mp hw with hw | hw
  · rcases List.mem_cons.mp hw with h | hw
    · rw [h]; exact h1
    rcases List.mem_cons.mp hw with h | hw
    · rw [h]; exact h2
    rcases List.mem_cons.mp hw with h | hw
    · rw [h]; exact h3
    · rw [List.mem_singleton.mp hw]; exact h4
  · exact gW_in h5 w hw
theorem g_cwS (hts : ∀ w ∈ gT, w.before args s = true) (h1 : Cond.methodLink own index y ∈ gT) (hY : gYs y bytes maxL rt n) {mc ms : Nat} (hrc : rm.cells = mc) (hrs : rm.slots = ms) (hR : rm.frames + 1 ≤ R.frames ∧ 8 + (maxL + 11) + rm.locals ≤ R.locals) : CallB R s args own index y bytes maxL rt (gW y bytes maxL rt) rm mc ms n ∧ (Cond.static y).before args s = true := by
  obtain ⟨h2, h4, h5, hd⟩ := hY
  exact ⟨callB_of n hts (g_good (gW_in h5)) rfl hrc hrs (hts _ h4) (hts _ h1) hd hR, hts _ h2⟩
theorem g_free (hK : ∀ q, s.heap.size ≤ q → A q) (hD : va_D A (w u)) (hS : va_S A s.heap H locs) : ∀ q, va_A (w u) H.size q → A q := by
  intro q h
  rcases h with ⟨k, e, h⟩ | h
  · exact hD.2 k _ h
  · exact hK q (Nat.le_trans hS.1 h)
/-- a call of an instance method over the same world -/
theorem g_calli {post : Int32 → S → Prop} {ci : Nat} {fs : List Value} {T : u_T} {N : Nat} (hC : gC p m c cc nL s args own meth ret D ty A) (hw : gH D w A s.heap u H locs) (hM : gMi l y (gW y bytes maxL rt) rm D ty w (.ref h :: as) u post) (h1 : Cond.methodLink own index y ∈ gT) (hY : gY C y bytes maxL rt as.length) (hc : classes[ci]? = some (C, T, N)) (he : (w u)[0]? = some (h, .inr (ci, fs))) (hrc : rm.cells = 0) (hrs : rm.slots = 0) (hR : rm.frames + 1 ≤ R.frames ∧ 8 + (maxL + 11) + rm.locals ≤ R.locals) (hls : ls.size = nL) (hrm : (rest.map fun v => v.category).sum ≤ 8) (hdg : decode cc pc = .ok (.invokevirtual index, 3))
    (kk : ∀ (r : Int32) (u1 : S) (H1 : Heap) (locs1 : List Loc), post r u1 → gH D w A s.heap u1 H1 locs1 → W p l e R s m args below meth c H1 locs1 0 0 Q (F0 m (pc + 3) ls (.int r :: rest))) : W p l e R s m args below meth c H locs 0 0 Q (F0 m pc ls (as.reverse ++ .ref h :: rest)) := by
  obtain ⟨hF, -, hK, hA⟩ := hC
  obtain ⟨hP, hD, hS⟩ := hw
  have hFc := g_free hA hD hS
  refine va_calli (va_runV (As := as) (rest := rest) hF (hM H.size) (g_cwV hF.2.2.2.2 h1 hY hrc hrs hR) ⟨fun a U g mk q => ?_, va_recv hK hP hc he, fun U hU hW => ?_⟩ rfl rfl hls rfl (lv_room hrm) hdg ⟨Nat.zero_le _, Nat.zero_le _⟩) hS (fun q _ h => hFc q h) hFc (fun r u1 t H1 locs1 ht hvm hp hB hz1 hk1 hS1 => ?_)
  · obtain ⟨q0, q1, qP, qK, qD⟩ := q
    exact ⟨q0, q1, qP, va_K.moved (u := U) (U := U.calling g mk a) (Vm.Alike.refl U.vm) qK, qD⟩
  · exact ⟨rfl, by rw [hU], by rw [hU]; exact hP, va_K.moved hW.alike hK, hD.weaken (fun _ _ _ _ => trivial)⟩
  · obtain ⟨hP1, hK1, hD1⟩ := hB
    rw [ht] at hP1
    exact kk r u1 H1 locs1 hp ⟨hP1, hD1.weaken (fun k q _ h => hFc q.1 h), hS1⟩
theorem g_callv {post : S → Prop} {ci : Nat} {fs : List Value} {T : u_T} {N : Nat} (hC : gC p m c cc nL s args own meth ret D ty A) (hw : gH D w A s.heap u H locs) (hM : gMv l y (gW y bytes maxL rt) rm D ty w (.ref h :: as) u post) (h1 : Cond.methodLink own index y ∈ gT) (hY : gY C y bytes maxL rt as.length) (hc : classes[ci]? = some (C, T, N)) (he : (w u)[0]? = some (h, .inr (ci, fs))) (hrc : rm.cells = 0) (hrs : rm.slots = 0) (hR : rm.frames + 1 ≤ R.frames ∧ 8 + (maxL + 11) + rm.locals ≤ R.locals) (hls : ls.size = nL) (hrm : (rest.map fun v => v.category).sum ≤ 8) (hdg : decode cc pc = .ok (.invokevirtual index, 3))
    (kk : ∀ (u1 : S) (H1 : Heap) (locs1 : List Loc), post u1 → gH D w A s.heap u1 H1 locs1 → W p l e R s m args below meth c H1 locs1 0 0 Q (F0 m (pc + 3) ls rest)) : W p l e R s m args below meth c H locs 0 0 Q (F0 m pc ls (as.reverse ++ .ref h :: rest)) := by
  obtain ⟨hF, -, hK, hA⟩ := hC
  obtain ⟨hP, hD, hS⟩ := hw
  have hFc := g_free hA hD hS
  refine va_callv (va_runV (As := as) (rest := rest) hF (hM H.size) (g_cwV hF.2.2.2.2 h1 hY hrc hrs hR) ⟨fun a U g mk q => ?_, va_recv hK hP hc he, fun U hU hW => ?_⟩ rfl rfl hls rfl (lv_room hrm) hdg ⟨Nat.zero_le _, Nat.zero_le _⟩) hS (fun q _ h => hFc q h) hFc (fun u1 t H1 locs1 ht hvm hp hB hz1 hk1 hS1 => ?_)
  · obtain ⟨q0, q1, qP, qK, qD⟩ := q
    exact ⟨q0, q1, qP, va_K.moved (u := U) (U := U.calling g mk a) (Vm.Alike.refl U.vm) qK, qD⟩
  · exact ⟨rfl, by rw [hU], by rw [hU]; exact hP, va_K.moved hW.alike hK, hD.weaken (fun _ _ _ _ => trivial)⟩
  · obtain ⟨hP1, hK1, hD1⟩ := hB
    rw [ht] at hP1
    exact kk u1 H1 locs1 hp ⟨hP1, hD1.weaken (fun k q _ h => hFc q.1 h), hS1⟩
/-- a static method that touches nothing: its contract is over the empty world -/
abbrev gMs (l : Launch) (y : MethodName) (ws : List Cond) (rm : Room) (D : va_G) (as : List Value) (r : Int32) : Prop := gMi (S := Unit) l y ws rm D [] (fun _ => []) as () (fun r1 _ => r1 = r)
theorem g_calls {r : Int32} (hC : gC p m c cc nL s args own meth ret D ty A) (hw : gH D w A s.heap u H locs) (hM : gMs l y (gW y bytes maxL rt) rm D as r) (h1 : Cond.methodLink own index y ∈ gT) (hY : gYs y bytes maxL rt as.length) (hrc : rm.cells = 0) (hrs : rm.slots = 0) (hR : rm.frames + 1 ≤ R.frames ∧ 8 + (maxL + 11) + rm.locals ≤ R.locals) (hls : ls.size = nL) (hrm : (rest.map fun v => v.category).sum ≤ 8) (hdg : decode cc pc = .ok (.invokestatic index, 3))
    (kk : ∀ (H1 : Heap) (locs1 : List Loc), gH D w A s.heap u H1 locs1 → W p l e R s m args below meth c H1 locs1 0 0 Q (F0 m (pc + 3) ls (.int r :: rest))) : W p l e R s m args below meth c H locs 0 0 Q (F0 m pc ls (as.reverse ++ rest)) := by
  obtain ⟨hF, -, hK, hA⟩ := hC
  obtain ⟨hP, hD, hS⟩ := hw
  have hFc : ∀ q, va_A [] H.size q → A q := by
    intro q h
    rcases h with ⟨k, e, h⟩ | h
    · simp at h
    · exact hA q (Nat.le_trans hS.1 h)
  refine va_calli (va_runS (As := as) (rest := rest) hF (hM H.size) (g_cwS hF.2.2.2.2 h1 hY hrc hrs hR) ⟨fun a U g mk q => ?_, fun U hU hW => ?_⟩ rfl rfl hls rfl (lv_room hrm) hdg ⟨Nat.zero_le _, Nat.zero_le _⟩) hS (fun q _ h => hFc q h) hFc (fun r1 u1 t H1 locs1 ht hvm hp hB hz1 hk1 hS1 => ?_)
  · obtain ⟨q0, q1, qP, qK, qD⟩ := q
    exact ⟨q0, q1, qP, va_K.moved (u := U) (U := U.calling g mk a) (Vm.Alike.refl U.vm) qK, qD⟩
  · exact ⟨rfl, by rw [hU], fun k q h => by simp at h, va_K.moved hW.alike (hK.sub (tys' := []) [] rfl), fun i j p q h => by simp at h, fun k q h => by simp at h⟩
  · have hp : r1 = r := hp
    subst hp
    refine kk H1 locs1 ⟨hP.kept (fun k q hq => hk1 q.1 (hP k q hq).lt (fun h => ?_)), hD, hS1⟩
    rcases h with ⟨k2, e, h⟩ | h
    · simp at h
    · exact absurd (hP k q hq).lt (Nat.not_lt.mpr h)
end GCL
end
section
theorem i_init_X : Cond.initialized R_X ∈ gT := List.mem_filter.mpr ⟨List.mem_append_right _ (List.mem_of_getElem? (i := 1) (by decide +kernel)), by decide +kernel⟩
theorem i_inst_X : Cond.instantiable R_X 6 ∈ gT := List.mem_filter.mpr ⟨List.mem_append_right _ (List.mem_of_getElem? (i := 7) (by decide +kernel)), by decide +kernel⟩
theorem i_init_M : Cond.initialized R_M ∈ gT := List.mem_filter.mpr ⟨List.mem_append_right _ (List.mem_of_getElem? (i := 2) (by decide +kernel)), by decide +kernel⟩
theorem i_inst_M : Cond.instantiable R_M 8 ∈ gT := List.mem_filter.mpr ⟨List.mem_append_right _ (List.mem_of_getElem? (i := 143) (by decide +kernel)), by decide +kernel⟩
theorem i_arr_byte : Cond.arrayClass .byte ∈ gT := List.mem_filter.mpr ⟨List.mem_append_right _ (List.mem_of_getElem? (i := 33) (by decide +kernel)), by decide +kernel⟩
theorem i_arr_int : Cond.arrayClass .int ∈ gT := List.mem_filter.mpr ⟨List.mem_append_right _ (List.mem_of_getElem? (i := 34) (by decide +kernel)), by decide +kernel⟩
theorem i_objectInit_im : Cond.instanceMethod objectInit ∈ gT := List.mem_filter.mpr ⟨List.mem_append_right _ (List.mem_of_getElem? (i := 12) (by decide +kernel)), by decide +kernel⟩
theorem i_objectInit_code : Cond.code objectInit ⟨#[0xb1]⟩ 1 none ∈ gT := List.mem_filter.mpr ⟨List.mem_append_right _ (List.mem_of_getElem? (i := 13) (by rfl)), by rfl⟩
theorem i_Math_min_static : Cond.static Lib.Math.min.name ∈ gT := List.mem_filter.mpr ⟨List.mem_append_right _ (List.mem_of_getElem? (i := 74) (by decide +kernel)), by decide +kernel⟩
theorem i_Math_init : Cond.initialized "java/lang/Math" ∈ gT := List.mem_filter.mpr ⟨List.mem_append_right _ (List.mem_of_getElem? (i := 3) (by decide +kernel)), by decide +kernel⟩
theorem i_Math_min_code : Cond.code Lib.Math.min.name Lib.Math.min.code 2 (some .int) ∈ gT := List.mem_filter.mpr ⟨List.mem_append_right _ (List.mem_of_getElem? (i := 75) (by rfl)), by rfl⟩
theorem i_arraycopy_native : Cond.native arraycopyName ∈ gT := List.mem_filter.mpr ⟨List.mem_append_right _ (List.mem_of_getElem? (i := 78) (by decide +kernel)), by decide +kernel⟩
theorem i_arraycopy_static : Cond.static arraycopyName ∈ gT := List.mem_filter.mpr ⟨List.mem_append_right _ (List.mem_of_getElem? (i := 77) (by decide +kernel)), by decide +kernel⟩
theorem i_System_init : Cond.initialized "java/lang/System" ∈ gT := List.mem_filter.mpr ⟨List.mem_append_right _ (List.mem_of_getElem? (i := 4) (by decide +kernel)), by decide +kernel⟩
theorem i_Integer_init : Cond.initialized "java/lang/Integer" ∈ gT := List.mem_filter.mpr ⟨List.mem_append_right _ (List.mem_of_getElem? (i := 5) (by decide +kernel)), by decide +kernel⟩
theorem i_st_Integer_compare : Cond.static y_Integer_compare ∈ gT := List.mem_filter.mpr ⟨List.mem_append_right _ (List.mem_of_getElem? (i := 108) (by decide +kernel)), by decide +kernel⟩
theorem i_code_Integer_compare : Cond.code y_Integer_compare b_Integer_compare 2 (some .int) ∈ gT := List.mem_filter.mpr ⟨List.mem_append_right _ (List.mem_of_getElem? (i := 109) (by rfl)), by rfl⟩
theorem f_Integer_compare : gYs y_Integer_compare b_Integer_compare 2 (some .int) 2 := ⟨i_st_Integer_compare, i_Integer_init, i_code_Integer_compare, by decide +kernel⟩
theorem hin_X : ∀ w ∈ u_ws R_X F_X 6, w ∈ gT := by decide +kernel
theorem lk_X_tape : Cond.fieldLink R_X 9 "WordTerms" "tape" "[B" ∈ gT := List.mem_filter.mpr ⟨List.mem_append_right _ (List.mem_of_getElem? (i := 14) (by decide +kernel)), by decide +kernel⟩
theorem lk_X_tapeLength : Cond.fieldLink R_X 13 "WordTerms" "tapeLength" "I" ∈ gT := List.mem_filter.mpr ⟨List.mem_append_right _ (List.mem_of_getElem? (i := 15) (by decide +kernel)), by decide +kernel⟩
theorem lk_X_signs : Cond.fieldLink R_X 17 "WordTerms" "signs" "[B" ∈ gT := List.mem_filter.mpr ⟨List.mem_append_right _ (List.mem_of_getElem? (i := 16) (by decide +kernel)), by decide +kernel⟩
theorem lk_X_lengths : Cond.fieldLink R_X 20 "WordTerms" "lengths" "[I" ∈ gT := List.mem_filter.mpr ⟨List.mem_append_right _ (List.mem_of_getElem? (i := 17) (by decide +kernel)), by decide +kernel⟩
theorem lk_X_termCount : Cond.fieldLink R_X 24 "WordTerms" "termCount" "I" ∈ gT := List.mem_filter.mpr ⟨List.mem_append_right _ (List.mem_of_getElem? (i := 18) (by decide +kernel)), by decide +kernel⟩
theorem lk_X_distances : Cond.fieldLink R_X 27 "WordTerms" "distances" "[I" ∈ gT := List.mem_filter.mpr ⟨List.mem_append_right _ (List.mem_of_getElem? (i := 19) (by decide +kernel)), by decide +kernel⟩
theorem i_code_X_init : Cond.code y_X_init b_X_init 1 none ∈ gT := List.mem_filter.mpr ⟨List.mem_append_right _ (List.mem_of_getElem? (i := 10) (by rfl)), by rfl⟩
theorem i_im_X_init : Cond.instanceMethod y_X_init ∈ gT := List.mem_filter.mpr ⟨List.mem_append_right _ (List.mem_of_getElem? (i := 9) (by decide +kernel)), by decide +kernel⟩
theorem i_code_X_feed : Cond.code y_X_feed b_X_feed 6 (some .int) ∈ gT := List.mem_filter.mpr ⟨List.mem_append_right _ (List.mem_of_getElem? (i := 38) (by rfl)), by rfl⟩
theorem i_im_X_feed : Cond.instanceMethod y_X_feed ∈ gT := List.mem_filter.mpr ⟨List.mem_append_right _ (List.mem_of_getElem? (i := 36) (by decide +kernel)), by decide +kernel⟩
theorem i_sl_X_feed : Cond.selects R_X y_X_feed y_X_feed ∈ gT := List.mem_filter.mpr ⟨List.mem_append_right _ (List.mem_of_getElem? (i := 37) (by decide +kernel)), by decide +kernel⟩
theorem f_X_feed : gY R_X y_X_feed b_X_feed 6 (some .int) 5 := ⟨i_im_X_feed, i_sl_X_feed, i_init_X, i_code_X_feed, by decide +kernel⟩
theorem i_code_X_end : Cond.code y_X_end b_X_end 2 (some .int) ∈ gT := List.mem_filter.mpr ⟨List.mem_append_right _ (List.mem_of_getElem? (i := 49) (by rfl)), by rfl⟩
theorem i_im_X_end : Cond.instanceMethod y_X_end ∈ gT := List.mem_filter.mpr ⟨List.mem_append_right _ (List.mem_of_getElem? (i := 47) (by decide +kernel)), by decide +kernel⟩
theorem i_sl_X_end : Cond.selects R_X y_X_end y_X_end ∈ gT := List.mem_filter.mpr ⟨List.mem_append_right _ (List.mem_of_getElem? (i := 48) (by decide +kernel)), by decide +kernel⟩
theorem f_X_end : gY R_X y_X_end b_X_end 2 (some .int) 1 := ⟨i_im_X_end, i_sl_X_end, i_init_X, i_code_X_end, by decide +kernel⟩
theorem i_code_X_read : Cond.code y_X_read b_X_read 3 (some .int) ∈ gT := List.mem_filter.mpr ⟨List.mem_append_right _ (List.mem_of_getElem? (i := 53) (by rfl)), by rfl⟩
theorem i_im_X_read : Cond.instanceMethod y_X_read ∈ gT := List.mem_filter.mpr ⟨List.mem_append_right _ (List.mem_of_getElem? (i := 51) (by decide +kernel)), by decide +kernel⟩
theorem i_sl_X_read : Cond.selects R_X y_X_read y_X_read ∈ gT := List.mem_filter.mpr ⟨List.mem_append_right _ (List.mem_of_getElem? (i := 52) (by decide +kernel)), by decide +kernel⟩
theorem f_X_read : gY R_X y_X_read b_X_read 3 (some .int) 0 := ⟨i_im_X_read, i_sl_X_read, i_init_X, i_code_X_read, by decide +kernel⟩
theorem i_code_X_sign : Cond.code y_X_sign b_X_sign 3 (some .int) ∈ gT := List.mem_filter.mpr ⟨List.mem_append_right _ (List.mem_of_getElem? (i := 86) (by rfl)), by rfl⟩
theorem i_im_X_sign : Cond.instanceMethod y_X_sign ∈ gT := List.mem_filter.mpr ⟨List.mem_append_right _ (List.mem_of_getElem? (i := 84) (by decide +kernel)), by decide +kernel⟩
theorem i_sl_X_sign : Cond.selects R_X y_X_sign y_X_sign ∈ gT := List.mem_filter.mpr ⟨List.mem_append_right _ (List.mem_of_getElem? (i := 85) (by decide +kernel)), by decide +kernel⟩
theorem f_X_sign : gY R_X y_X_sign b_X_sign 3 (some .int) 2 := ⟨i_im_X_sign, i_sl_X_sign, i_init_X, i_code_X_sign, by decide +kernel⟩
theorem i_code_X_different : Cond.code y_X_different b_X_different 3 (some .int) ∈ gT := List.mem_filter.mpr ⟨List.mem_append_right _ (List.mem_of_getElem? (i := 98) (by rfl)), by rfl⟩
theorem i_im_X_different : Cond.instanceMethod y_X_different ∈ gT := List.mem_filter.mpr ⟨List.mem_append_right _ (List.mem_of_getElem? (i := 96) (by decide +kernel)), by decide +kernel⟩
theorem i_sl_X_different : Cond.selects R_X y_X_different y_X_different ∈ gT := List.mem_filter.mpr ⟨List.mem_append_right _ (List.mem_of_getElem? (i := 97) (by decide +kernel)), by decide +kernel⟩
theorem f_X_different : gY R_X y_X_different b_X_different 3 (some .int) 0 := ⟨i_im_X_different, i_sl_X_different, i_init_X, i_code_X_different, by decide +kernel⟩
theorem i_code_X_first : Cond.code y_X_first b_X_first 2 (some .int) ∈ gT := List.mem_filter.mpr ⟨List.mem_append_right _ (List.mem_of_getElem? (i := 113) (by rfl)), by rfl⟩
theorem i_im_X_first : Cond.instanceMethod y_X_first ∈ gT := List.mem_filter.mpr ⟨List.mem_append_right _ (List.mem_of_getElem? (i := 111) (by decide +kernel)), by decide +kernel⟩
theorem i_sl_X_first : Cond.selects R_X y_X_first y_X_first ∈ gT := List.mem_filter.mpr ⟨List.mem_append_right _ (List.mem_of_getElem? (i := 112) (by decide +kernel)), by decide +kernel⟩
theorem f_X_first : gY R_X y_X_first b_X_first 2 (some .int) 1 := ⟨i_im_X_first, i_sl_X_first, i_init_X, i_code_X_first, by decide +kernel⟩
theorem i_code_X_compare : Cond.code y_X_compare b_X_compare 3 (some .int) ∈ gT := List.mem_filter.mpr ⟨List.mem_append_right _ (List.mem_of_getElem? (i := 117) (by rfl)), by rfl⟩
theorem i_im_X_compare : Cond.instanceMethod y_X_compare ∈ gT := List.mem_filter.mpr ⟨List.mem_append_right _ (List.mem_of_getElem? (i := 115) (by decide +kernel)), by decide +kernel⟩
theorem i_sl_X_compare : Cond.selects R_X y_X_compare y_X_compare ∈ gT := List.mem_filter.mpr ⟨List.mem_append_right _ (List.mem_of_getElem? (i := 116) (by decide +kernel)), by decide +kernel⟩
theorem f_X_compare : gY R_X y_X_compare b_X_compare 3 (some .int) 2 := ⟨i_im_X_compare, i_sl_X_compare, i_init_X, i_code_X_compare, by decide +kernel⟩
theorem i_code_X_apart : Cond.code y_X_apart b_X_apart 2 (some .int) ∈ gT := List.mem_filter.mpr ⟨List.mem_append_right _ (List.mem_of_getElem? (i := 121) (by rfl)), by rfl⟩
theorem i_im_X_apart : Cond.instanceMethod y_X_apart ∈ gT := List.mem_filter.mpr ⟨List.mem_append_right _ (List.mem_of_getElem? (i := 119) (by decide +kernel)), by decide +kernel⟩
theorem i_sl_X_apart : Cond.selects R_X y_X_apart y_X_apart ∈ gT := List.mem_filter.mpr ⟨List.mem_append_right _ (List.mem_of_getElem? (i := 120) (by decide +kernel)), by decide +kernel⟩
theorem f_X_apart : gY R_X y_X_apart b_X_apart 2 (some .int) 1 := ⟨i_im_X_apart, i_sl_X_apart, i_init_X, i_code_X_apart, by decide +kernel⟩
theorem i_code_X_nearest : Cond.code y_X_nearest b_X_nearest 5 (some .int) ∈ gT := List.mem_filter.mpr ⟨List.mem_append_right _ (List.mem_of_getElem? (i := 137) (by rfl)), by rfl⟩
theorem i_im_X_nearest : Cond.instanceMethod y_X_nearest ∈ gT := List.mem_filter.mpr ⟨List.mem_append_right _ (List.mem_of_getElem? (i := 135) (by decide +kernel)), by decide +kernel⟩
theorem i_sl_X_nearest : Cond.selects R_X y_X_nearest y_X_nearest ∈ gT := List.mem_filter.mpr ⟨List.mem_append_right _ (List.mem_of_getElem? (i := 136) (by decide +kernel)), by decide +kernel⟩
theorem f_X_nearest : gY R_X y_X_nearest b_X_nearest 5 (some .int) 0 := ⟨i_im_X_nearest, i_sl_X_nearest, i_init_X, i_code_X_nearest, by decide +kernel⟩
theorem i_code_X_plain : Cond.code y_X_plain b_X_plain 2 (some .int) ∈ gT := List.mem_filter.mpr ⟨List.mem_append_right _ (List.mem_of_getElem? (i := 141) (by rfl)), by rfl⟩
theorem i_im_X_plain : Cond.instanceMethod y_X_plain ∈ gT := List.mem_filter.mpr ⟨List.mem_append_right _ (List.mem_of_getElem? (i := 139) (by decide +kernel)), by decide +kernel⟩
theorem i_sl_X_plain : Cond.selects R_X y_X_plain y_X_plain ∈ gT := List.mem_filter.mpr ⟨List.mem_append_right _ (List.mem_of_getElem? (i := 140) (by decide +kernel)), by decide +kernel⟩
theorem f_X_plain : gY R_X y_X_plain b_X_plain 2 (some .int) 0 := ⟨i_im_X_plain, i_sl_X_plain, i_init_X, i_code_X_plain, by decide +kernel⟩
theorem i_code_X_putFour : Cond.code y_X_putFour b_X_putFour 3 none ∈ gT := List.mem_filter.mpr ⟨List.mem_append_right _ (List.mem_of_getElem? (i := 42) (by rfl)), by rfl⟩
theorem i_im_X_putFour : Cond.instanceMethod y_X_putFour ∈ gT := List.mem_filter.mpr ⟨List.mem_append_right _ (List.mem_of_getElem? (i := 41) (by decide +kernel)), by decide +kernel⟩
theorem i_sl_X_putFour : Cond.selects R_X y_X_putFour y_X_putFour ∈ gT := List.mem_filter.mpr ⟨List.mem_append_left _ (List.mem_of_getElem? (i := 0) (by decide +kernel)), by decide +kernel⟩
theorem f_X_putFour : gY R_X y_X_putFour b_X_putFour 3 none 1 := ⟨i_im_X_putFour, i_sl_X_putFour, i_init_X, i_code_X_putFour, by decide +kernel⟩
theorem i_code_X_small : Cond.code y_X_small b_X_small 1 (some .byte) ∈ gT := List.mem_filter.mpr ⟨List.mem_append_right _ (List.mem_of_getElem? (i := 45) (by rfl)), by rfl⟩
theorem i_st_X_small : Cond.static y_X_small ∈ gT := List.mem_filter.mpr ⟨List.mem_append_right _ (List.mem_of_getElem? (i := 44) (by decide +kernel)), by decide +kernel⟩
theorem f_X_small : gYs y_X_small b_X_small 1 (some .byte) 1 := ⟨i_st_X_small, i_init_X, i_code_X_small, by decide +kernel⟩
theorem i_code_X_isSign : Cond.code y_X_isSign b_X_isSign 1 (some .boolean) ∈ gT := List.mem_filter.mpr ⟨List.mem_append_right _ (List.mem_of_getElem? (i := 56) (by rfl)), by rfl⟩
theorem i_st_X_isSign : Cond.static y_X_isSign ∈ gT := List.mem_filter.mpr ⟨List.mem_append_right _ (List.mem_of_getElem? (i := 55) (by decide +kernel)), by decide +kernel⟩
theorem f_X_isSign : gYs y_X_isSign b_X_isSign 1 (some .boolean) 1 := ⟨i_st_X_isSign, i_init_X, i_code_X_isSign, by decide +kernel⟩
theorem i_code_X_tapeIsWord : Cond.code y_X_tapeIsWord b_X_tapeIsWord 2 (some .boolean) ∈ gT := List.mem_filter.mpr ⟨List.mem_append_right _ (List.mem_of_getElem? (i := 129) (by rfl)), by rfl⟩
theorem i_im_X_tapeIsWord : Cond.instanceMethod y_X_tapeIsWord ∈ gT := List.mem_filter.mpr ⟨List.mem_append_right _ (List.mem_of_getElem? (i := 128) (by decide +kernel)), by decide +kernel⟩
theorem i_sl_X_tapeIsWord : Cond.selects R_X y_X_tapeIsWord y_X_tapeIsWord ∈ gT := List.mem_filter.mpr ⟨List.mem_append_left _ (List.mem_of_getElem? (i := 11) (by decide +kernel)), by decide +kernel⟩
theorem f_X_tapeIsWord : gY R_X y_X_tapeIsWord b_X_tapeIsWord 2 (some .boolean) 0 := ⟨i_im_X_tapeIsWord, i_sl_X_tapeIsWord, i_init_X, i_code_X_tapeIsWord, by decide +kernel⟩
theorem i_code_X_takeTapeTerm : Cond.code y_X_takeTapeTerm b_X_takeTapeTerm 2 (some .boolean) ∈ gT := List.mem_filter.mpr ⟨List.mem_append_right _ (List.mem_of_getElem? (i := 125) (by rfl)), by rfl⟩
theorem i_im_X_takeTapeTerm : Cond.instanceMethod y_X_takeTapeTerm ∈ gT := List.mem_filter.mpr ⟨List.mem_append_right _ (List.mem_of_getElem? (i := 124) (by decide +kernel)), by decide +kernel⟩
theorem i_sl_X_takeTapeTerm : Cond.selects R_X y_X_takeTapeTerm y_X_takeTapeTerm ∈ gT := List.mem_filter.mpr ⟨List.mem_append_left _ (List.mem_of_getElem? (i := 10) (by decide +kernel)), by decide +kernel⟩
theorem f_X_takeTapeTerm : gY R_X y_X_takeTapeTerm b_X_takeTapeTerm 2 (some .boolean) 0 := ⟨i_im_X_takeTapeTerm, i_sl_X_takeTapeTerm, i_init_X, i_code_X_takeTapeTerm, by decide +kernel⟩
theorem i_code_X_addTerm : Cond.code y_X_addTerm b_X_addTerm 3 none ∈ gT := List.mem_filter.mpr ⟨List.mem_append_right _ (List.mem_of_getElem? (i := 60) (by rfl)), by rfl⟩
theorem i_im_X_addTerm : Cond.instanceMethod y_X_addTerm ∈ gT := List.mem_filter.mpr ⟨List.mem_append_right _ (List.mem_of_getElem? (i := 59) (by decide +kernel)), by decide +kernel⟩
theorem i_sl_X_addTerm : Cond.selects R_X y_X_addTerm y_X_addTerm ∈ gT := List.mem_filter.mpr ⟨List.mem_append_left _ (List.mem_of_getElem? (i := 1) (by decide +kernel)), by decide +kernel⟩
theorem f_X_addTerm : gY R_X y_X_addTerm b_X_addTerm 3 none 2 := ⟨i_im_X_addTerm, i_sl_X_addTerm, i_init_X, i_code_X_addTerm, by decide +kernel⟩
theorem i_code_X_writeTerm : Cond.code y_X_writeTerm b_X_writeTerm 5 none ∈ gT := List.mem_filter.mpr ⟨List.mem_append_right _ (List.mem_of_getElem? (i := 64) (by rfl)), by rfl⟩
theorem i_im_X_writeTerm : Cond.instanceMethod y_X_writeTerm ∈ gT := List.mem_filter.mpr ⟨List.mem_append_right _ (List.mem_of_getElem? (i := 63) (by decide +kernel)), by decide +kernel⟩
theorem i_sl_X_writeTerm : Cond.selects R_X y_X_writeTerm y_X_writeTerm ∈ gT := List.mem_filter.mpr ⟨List.mem_append_left _ (List.mem_of_getElem? (i := 2) (by decide +kernel)), by decide +kernel⟩
theorem f_X_writeTerm : gY R_X y_X_writeTerm b_X_writeTerm 5 none 3 := ⟨i_im_X_writeTerm, i_sl_X_writeTerm, i_init_X, i_code_X_writeTerm, by decide +kernel⟩
theorem i_code_X_endsWithIes : Cond.code y_X_endsWithIes b_X_endsWithIes 2 (some .boolean) ∈ gT := List.mem_filter.mpr ⟨List.mem_append_right _ (List.mem_of_getElem? (i := 68) (by rfl)), by rfl⟩
theorem i_im_X_endsWithIes : Cond.instanceMethod y_X_endsWithIes ∈ gT := List.mem_filter.mpr ⟨List.mem_append_right _ (List.mem_of_getElem? (i := 67) (by decide +kernel)), by decide +kernel⟩
theorem i_sl_X_endsWithIes : Cond.selects R_X y_X_endsWithIes y_X_endsWithIes ∈ gT := List.mem_filter.mpr ⟨List.mem_append_left _ (List.mem_of_getElem? (i := 3) (by decide +kernel)), by decide +kernel⟩
theorem f_X_endsWithIes : gY R_X y_X_endsWithIes b_X_endsWithIes 2 (some .boolean) 1 := ⟨i_im_X_endsWithIes, i_sl_X_endsWithIes, i_init_X, i_code_X_endsWithIes, by decide +kernel⟩
theorem i_code_X_endsWithLooseS : Cond.code y_X_endsWithLooseS b_X_endsWithLooseS 2 (some .boolean) ∈ gT := List.mem_filter.mpr ⟨List.mem_append_right _ (List.mem_of_getElem? (i := 82) (by rfl)), by rfl⟩
theorem i_im_X_endsWithLooseS : Cond.instanceMethod y_X_endsWithLooseS ∈ gT := List.mem_filter.mpr ⟨List.mem_append_right _ (List.mem_of_getElem? (i := 81) (by decide +kernel)), by decide +kernel⟩
theorem i_sl_X_endsWithLooseS : Cond.selects R_X y_X_endsWithLooseS y_X_endsWithLooseS ∈ gT := List.mem_filter.mpr ⟨List.mem_append_left _ (List.mem_of_getElem? (i := 5) (by decide +kernel)), by decide +kernel⟩
theorem f_X_endsWithLooseS : gY R_X y_X_endsWithLooseS b_X_endsWithLooseS 2 (some .boolean) 1 := ⟨i_im_X_endsWithLooseS, i_sl_X_endsWithLooseS, i_init_X, i_code_X_endsWithLooseS, by decide +kernel⟩
theorem i_code_X_writeSigns : Cond.code y_X_writeSigns b_X_writeSigns 5 none ∈ gT := List.mem_filter.mpr ⟨List.mem_append_right _ (List.mem_of_getElem? (i := 72) (by rfl)), by rfl⟩
theorem i_im_X_writeSigns : Cond.instanceMethod y_X_writeSigns ∈ gT := List.mem_filter.mpr ⟨List.mem_append_right _ (List.mem_of_getElem? (i := 71) (by decide +kernel)), by decide +kernel⟩
theorem i_sl_X_writeSigns : Cond.selects R_X y_X_writeSigns y_X_writeSigns ∈ gT := List.mem_filter.mpr ⟨List.mem_append_left _ (List.mem_of_getElem? (i := 4) (by decide +kernel)), by decide +kernel⟩
theorem f_X_writeSigns : gY R_X y_X_writeSigns b_X_writeSigns 5 none 3 := ⟨i_im_X_writeSigns, i_sl_X_writeSigns, i_init_X, i_code_X_writeSigns, by decide +kernel⟩
theorem i_code_X_hasTerm : Cond.code y_X_hasTerm b_X_hasTerm 2 (some .boolean) ∈ gT := List.mem_filter.mpr ⟨List.mem_append_right _ (List.mem_of_getElem? (i := 90) (by rfl)), by rfl⟩
theorem i_im_X_hasTerm : Cond.instanceMethod y_X_hasTerm ∈ gT := List.mem_filter.mpr ⟨List.mem_append_right _ (List.mem_of_getElem? (i := 89) (by decide +kernel)), by decide +kernel⟩
theorem i_sl_X_hasTerm : Cond.selects R_X y_X_hasTerm y_X_hasTerm ∈ gT := List.mem_filter.mpr ⟨List.mem_append_left _ (List.mem_of_getElem? (i := 6) (by decide +kernel)), by decide +kernel⟩
theorem f_X_hasTerm : gY R_X y_X_hasTerm b_X_hasTerm 2 (some .boolean) 1 := ⟨i_im_X_hasTerm, i_sl_X_hasTerm, i_init_X, i_code_X_hasTerm, by decide +kernel⟩
theorem i_code_X_signAt : Cond.code y_X_signAt b_X_signAt 3 (some .int) ∈ gT := List.mem_filter.mpr ⟨List.mem_append_right _ (List.mem_of_getElem? (i := 94) (by rfl)), by rfl⟩
theorem i_im_X_signAt : Cond.instanceMethod y_X_signAt ∈ gT := List.mem_filter.mpr ⟨List.mem_append_right _ (List.mem_of_getElem? (i := 93) (by decide +kernel)), by decide +kernel⟩
theorem i_sl_X_signAt : Cond.selects R_X y_X_signAt y_X_signAt ∈ gT := List.mem_filter.mpr ⟨List.mem_append_left _ (List.mem_of_getElem? (i := 7) (by decide +kernel)), by decide +kernel⟩
theorem f_X_signAt : gY R_X y_X_signAt b_X_signAt 3 (some .int) 2 := ⟨i_im_X_signAt, i_sl_X_signAt, i_init_X, i_code_X_signAt, by decide +kernel⟩
theorem i_code_X_firstSame : Cond.code y_X_firstSame b_X_firstSame 3 (some .int) ∈ gT := List.mem_filter.mpr ⟨List.mem_append_right _ (List.mem_of_getElem? (i := 102) (by rfl)), by rfl⟩
theorem i_im_X_firstSame : Cond.instanceMethod y_X_firstSame ∈ gT := List.mem_filter.mpr ⟨List.mem_append_right _ (List.mem_of_getElem? (i := 101) (by decide +kernel)), by decide +kernel⟩
theorem i_sl_X_firstSame : Cond.selects R_X y_X_firstSame y_X_firstSame ∈ gT := List.mem_filter.mpr ⟨List.mem_append_left _ (List.mem_of_getElem? (i := 8) (by decide +kernel)), by decide +kernel⟩
theorem f_X_firstSame : gY R_X y_X_firstSame b_X_firstSame 3 (some .int) 1 := ⟨i_im_X_firstSame, i_sl_X_firstSame, i_init_X, i_code_X_firstSame, by decide +kernel⟩
theorem i_code_X_order : Cond.code y_X_order b_X_order 5 (some .int) ∈ gT := List.mem_filter.mpr ⟨List.mem_append_right _ (List.mem_of_getElem? (i := 106) (by rfl)), by rfl⟩
theorem i_im_X_order : Cond.instanceMethod y_X_order ∈ gT := List.mem_filter.mpr ⟨List.mem_append_right _ (List.mem_of_getElem? (i := 105) (by decide +kernel)), by decide +kernel⟩
theorem i_sl_X_order : Cond.selects R_X y_X_order y_X_order ∈ gT := List.mem_filter.mpr ⟨List.mem_append_left _ (List.mem_of_getElem? (i := 9) (by decide +kernel)), by decide +kernel⟩
theorem f_X_order : gY R_X y_X_order b_X_order 5 (some .int) 2 := ⟨i_im_X_order, i_sl_X_order, i_init_X, i_code_X_order, by decide +kernel⟩
theorem i_code_X_distance : Cond.code y_X_distance b_X_distance 8 (some .int) ∈ gT := List.mem_filter.mpr ⟨List.mem_append_right _ (List.mem_of_getElem? (i := 133) (by rfl)), by rfl⟩
theorem i_im_X_distance : Cond.instanceMethod y_X_distance ∈ gT := List.mem_filter.mpr ⟨List.mem_append_right _ (List.mem_of_getElem? (i := 132) (by decide +kernel)), by decide +kernel⟩
theorem i_sl_X_distance : Cond.selects R_X y_X_distance y_X_distance ∈ gT := List.mem_filter.mpr ⟨List.mem_append_left _ (List.mem_of_getElem? (i := 12) (by decide +kernel)), by decide +kernel⟩
theorem f_X_distance : gY R_X y_X_distance b_X_distance 8 (some .int) 2 := ⟨i_im_X_distance, i_sl_X_distance, i_init_X, i_code_X_distance, by decide +kernel⟩
theorem hin_M : ∀ w ∈ u_ws R_M F_M 8, w ∈ gT := by decide +kernel
theorem lk_M_tape : Cond.fieldLink R_M 9 "WordTermsModel" "tape" "[B" ∈ gT := List.mem_filter.mpr ⟨List.mem_append_right _ (List.mem_of_getElem? (i := 148) (by decide +kernel)), by decide +kernel⟩
theorem lk_M_length : Cond.fieldLink R_M 26 "WordTermsModel" "length" "I" ∈ gT := List.mem_filter.mpr ⟨List.mem_append_right _ (List.mem_of_getElem? (i := 149) (by decide +kernel)), by decide +kernel⟩
theorem lk_M_terms : Cond.fieldLink R_M 13 "WordTermsModel" "terms" "[B" ∈ gT := List.mem_filter.mpr ⟨List.mem_append_right _ (List.mem_of_getElem? (i := 150) (by decide +kernel)), by decide +kernel⟩
theorem lk_M_sizes : Cond.fieldLink R_M 16 "WordTermsModel" "sizes" "[I" ∈ gT := List.mem_filter.mpr ⟨List.mem_append_right _ (List.mem_of_getElem? (i := 151) (by decide +kernel)), by decide +kernel⟩
theorem lk_M_count : Cond.fieldLink R_M 48 "WordTermsModel" "count" "I" ∈ gT := List.mem_filter.mpr ⟨List.mem_append_right _ (List.mem_of_getElem? (i := 152) (by decide +kernel)), by decide +kernel⟩
theorem lk_M_word : Cond.fieldLink R_M 20 "WordTermsModel" "word" "[B" ∈ gT := List.mem_filter.mpr ⟨List.mem_append_right _ (List.mem_of_getElem? (i := 153) (by decide +kernel)), by decide +kernel⟩
theorem lk_M_wordLength : Cond.fieldLink R_M 34 "WordTermsModel" "wordLength" "I" ∈ gT := List.mem_filter.mpr ⟨List.mem_append_right _ (List.mem_of_getElem? (i := 154) (by decide +kernel)), by decide +kernel⟩
theorem lk_M_table : Cond.fieldLink R_M 23 "WordTermsModel" "table" "[I" ∈ gT := List.mem_filter.mpr ⟨List.mem_append_right _ (List.mem_of_getElem? (i := 155) (by decide +kernel)), by decide +kernel⟩
theorem i_code_M_init : Cond.code y_M_init b_M_init 1 none ∈ gT := List.mem_filter.mpr ⟨List.mem_append_right _ (List.mem_of_getElem? (i := 146) (by rfl)), by rfl⟩
theorem i_im_M_init : Cond.instanceMethod y_M_init ∈ gT := List.mem_filter.mpr ⟨List.mem_append_right _ (List.mem_of_getElem? (i := 145) (by decide +kernel)), by decide +kernel⟩
theorem i_code_M_put : Cond.code y_M_put b_M_put 3 none ∈ gT := List.mem_filter.mpr ⟨List.mem_append_right _ (List.mem_of_getElem? (i := 180) (by rfl)), by rfl⟩
theorem i_im_M_put : Cond.instanceMethod y_M_put ∈ gT := List.mem_filter.mpr ⟨List.mem_append_right _ (List.mem_of_getElem? (i := 179) (by decide +kernel)), by decide +kernel⟩
theorem i_sl_M_put : Cond.selects R_M y_M_put y_M_put ∈ gT := List.mem_filter.mpr ⟨List.mem_append_left _ (List.mem_of_getElem? (i := 13) (by decide +kernel)), by decide +kernel⟩
theorem f_M_put : gY R_M y_M_put b_M_put 3 none 1 := ⟨i_im_M_put, i_sl_M_put, i_init_M, i_code_M_put, by decide +kernel⟩
theorem i_code_M_feed : Cond.code y_M_feed b_M_feed 6 (some .int) ∈ gT := List.mem_filter.mpr ⟨List.mem_append_right _ (List.mem_of_getElem? (i := 176) (by rfl)), by rfl⟩
theorem i_im_M_feed : Cond.instanceMethod y_M_feed ∈ gT := List.mem_filter.mpr ⟨List.mem_append_right _ (List.mem_of_getElem? (i := 174) (by decide +kernel)), by decide +kernel⟩
theorem i_sl_M_feed : Cond.selects R_M y_M_feed y_M_feed ∈ gT := List.mem_filter.mpr ⟨List.mem_append_right _ (List.mem_of_getElem? (i := 175) (by decide +kernel)), by decide +kernel⟩
theorem f_M_feed : gY R_M y_M_feed b_M_feed 6 (some .int) 5 := ⟨i_im_M_feed, i_sl_M_feed, i_init_M, i_code_M_feed, by decide +kernel⟩
theorem i_code_M_end : Cond.code y_M_end b_M_end 2 (some .int) ∈ gT := List.mem_filter.mpr ⟨List.mem_append_right _ (List.mem_of_getElem? (i := 184) (by rfl)), by rfl⟩
theorem i_im_M_end : Cond.instanceMethod y_M_end ∈ gT := List.mem_filter.mpr ⟨List.mem_append_right _ (List.mem_of_getElem? (i := 182) (by decide +kernel)), by decide +kernel⟩
theorem i_sl_M_end : Cond.selects R_M y_M_end y_M_end ∈ gT := List.mem_filter.mpr ⟨List.mem_append_right _ (List.mem_of_getElem? (i := 183) (by decide +kernel)), by decide +kernel⟩
theorem f_M_end : gY R_M y_M_end b_M_end 2 (some .int) 1 := ⟨i_im_M_end, i_sl_M_end, i_init_M, i_code_M_end, by decide +kernel⟩
theorem i_code_M_letter : Cond.code y_M_letter b_M_letter 1 (some .boolean) ∈ gT := List.mem_filter.mpr ⟨List.mem_append_right _ (List.mem_of_getElem? (i := 191) (by rfl)), by rfl⟩
theorem i_st_M_letter : Cond.static y_M_letter ∈ gT := List.mem_filter.mpr ⟨List.mem_append_right _ (List.mem_of_getElem? (i := 190) (by decide +kernel)), by decide +kernel⟩
theorem f_M_letter : gYs y_M_letter b_M_letter 1 (some .boolean) 1 := ⟨i_st_M_letter, i_init_M, i_code_M_letter, by decide +kernel⟩
theorem i_code_M_run : Cond.code y_M_run b_M_run 3 (some .int) ∈ gT := List.mem_filter.mpr ⟨List.mem_append_right _ (List.mem_of_getElem? (i := 195) (by rfl)), by rfl⟩
theorem i_im_M_run : Cond.instanceMethod y_M_run ∈ gT := List.mem_filter.mpr ⟨List.mem_append_right _ (List.mem_of_getElem? (i := 194) (by decide +kernel)), by decide +kernel⟩
theorem i_sl_M_run : Cond.selects R_M y_M_run y_M_run ∈ gT := List.mem_filter.mpr ⟨List.mem_append_left _ (List.mem_of_getElem? (i := 14) (by decide +kernel)), by decide +kernel⟩
theorem f_M_run : gY R_M y_M_run b_M_run 3 (some .int) 1 := ⟨i_im_M_run, i_sl_M_run, i_init_M, i_code_M_run, by decide +kernel⟩
theorem i_code_M_last : Cond.code y_M_last b_M_last 2 (some .int) ∈ gT := List.mem_filter.mpr ⟨List.mem_append_right _ (List.mem_of_getElem? (i := 203) (by rfl)), by rfl⟩
theorem i_im_M_last : Cond.instanceMethod y_M_last ∈ gT := List.mem_filter.mpr ⟨List.mem_append_right _ (List.mem_of_getElem? (i := 202) (by decide +kernel)), by decide +kernel⟩
theorem i_sl_M_last : Cond.selects R_M y_M_last y_M_last ∈ gT := List.mem_filter.mpr ⟨List.mem_append_left _ (List.mem_of_getElem? (i := 16) (by decide +kernel)), by decide +kernel⟩
theorem f_M_last : gY R_M y_M_last b_M_last 2 (some .int) 1 := ⟨i_im_M_last, i_sl_M_last, i_init_M, i_code_M_last, by decide +kernel⟩
theorem i_code_M_note : Cond.code y_M_note b_M_note 5 none ∈ gT := List.mem_filter.mpr ⟨List.mem_append_right _ (List.mem_of_getElem? (i := 199) (by rfl)), by rfl⟩
theorem i_im_M_note : Cond.instanceMethod y_M_note ∈ gT := List.mem_filter.mpr ⟨List.mem_append_right _ (List.mem_of_getElem? (i := 198) (by decide +kernel)), by decide +kernel⟩
theorem i_sl_M_note : Cond.selects R_M y_M_note y_M_note ∈ gT := List.mem_filter.mpr ⟨List.mem_append_left _ (List.mem_of_getElem? (i := 15) (by decide +kernel)), by decide +kernel⟩
theorem f_M_note : gY R_M y_M_note b_M_note 5 none 2 := ⟨i_im_M_note, i_sl_M_note, i_init_M, i_code_M_note, by decide +kernel⟩
theorem i_code_M_oneWord : Cond.code y_M_oneWord b_M_oneWord 2 (some .boolean) ∈ gT := List.mem_filter.mpr ⟨List.mem_append_right _ (List.mem_of_getElem? (i := 236) (by rfl)), by rfl⟩
theorem i_im_M_oneWord : Cond.instanceMethod y_M_oneWord ∈ gT := List.mem_filter.mpr ⟨List.mem_append_right _ (List.mem_of_getElem? (i := 235) (by decide +kernel)), by decide +kernel⟩
theorem i_sl_M_oneWord : Cond.selects R_M y_M_oneWord y_M_oneWord ∈ gT := List.mem_filter.mpr ⟨List.mem_append_left _ (List.mem_of_getElem? (i := 19) (by decide +kernel)), by decide +kernel⟩
theorem f_M_oneWord : gY R_M y_M_oneWord b_M_oneWord 2 (some .boolean) 0 := ⟨i_im_M_oneWord, i_sl_M_oneWord, i_init_M, i_code_M_oneWord, by decide +kernel⟩
theorem i_code_M_read : Cond.code y_M_read b_M_read 2 (some .int) ∈ gT := List.mem_filter.mpr ⟨List.mem_append_right _ (List.mem_of_getElem? (i := 188) (by rfl)), by rfl⟩
theorem i_im_M_read : Cond.instanceMethod y_M_read ∈ gT := List.mem_filter.mpr ⟨List.mem_append_right _ (List.mem_of_getElem? (i := 186) (by decide +kernel)), by decide +kernel⟩
theorem i_sl_M_read : Cond.selects R_M y_M_read y_M_read ∈ gT := List.mem_filter.mpr ⟨List.mem_append_right _ (List.mem_of_getElem? (i := 187) (by decide +kernel)), by decide +kernel⟩
theorem f_M_read : gY R_M y_M_read b_M_read 2 (some .int) 0 := ⟨i_im_M_read, i_sl_M_read, i_init_M, i_code_M_read, by decide +kernel⟩
theorem i_code_M_is : Cond.code y_M_is b_M_is 2 (some .boolean) ∈ gT := List.mem_filter.mpr ⟨List.mem_append_right _ (List.mem_of_getElem? (i := 211) (by rfl)), by rfl⟩
theorem i_im_M_is : Cond.instanceMethod y_M_is ∈ gT := List.mem_filter.mpr ⟨List.mem_append_right _ (List.mem_of_getElem? (i := 210) (by decide +kernel)), by decide +kernel⟩
theorem i_sl_M_is : Cond.selects R_M y_M_is y_M_is ∈ gT := List.mem_filter.mpr ⟨List.mem_append_left _ (List.mem_of_getElem? (i := 17) (by decide +kernel)), by decide +kernel⟩
theorem f_M_is : gY R_M y_M_is b_M_is 2 (some .boolean) 1 := ⟨i_im_M_is, i_sl_M_is, i_init_M, i_code_M_is, by decide +kernel⟩
theorem i_code_M_sign : Cond.code y_M_sign b_M_sign 3 (some .int) ∈ gT := List.mem_filter.mpr ⟨List.mem_append_right _ (List.mem_of_getElem? (i := 207) (by rfl)), by rfl⟩
theorem i_im_M_sign : Cond.instanceMethod y_M_sign ∈ gT := List.mem_filter.mpr ⟨List.mem_append_right _ (List.mem_of_getElem? (i := 205) (by decide +kernel)), by decide +kernel⟩
theorem i_sl_M_sign : Cond.selects R_M y_M_sign y_M_sign ∈ gT := List.mem_filter.mpr ⟨List.mem_append_right _ (List.mem_of_getElem? (i := 206) (by decide +kernel)), by decide +kernel⟩
theorem f_M_sign : gY R_M y_M_sign b_M_sign 3 (some .int) 2 := ⟨i_im_M_sign, i_sl_M_sign, i_init_M, i_code_M_sign, by decide +kernel⟩
theorem i_code_M_order : Cond.code y_M_order b_M_order 4 (some .int) ∈ gT := List.mem_filter.mpr ⟨List.mem_append_right _ (List.mem_of_getElem? (i := 219) (by rfl)), by rfl⟩
theorem i_im_M_order : Cond.instanceMethod y_M_order ∈ gT := List.mem_filter.mpr ⟨List.mem_append_right _ (List.mem_of_getElem? (i := 218) (by decide +kernel)), by decide +kernel⟩
theorem i_sl_M_order : Cond.selects R_M y_M_order y_M_order ∈ gT := List.mem_filter.mpr ⟨List.mem_append_left _ (List.mem_of_getElem? (i := 18) (by decide +kernel)), by decide +kernel⟩
theorem f_M_order : gY R_M y_M_order b_M_order 4 (some .int) 2 := ⟨i_im_M_order, i_sl_M_order, i_init_M, i_code_M_order, by decide +kernel⟩
theorem i_code_M_first : Cond.code y_M_first b_M_first 3 (some .int) ∈ gT := List.mem_filter.mpr ⟨List.mem_append_right _ (List.mem_of_getElem? (i := 215) (by rfl)), by rfl⟩
theorem i_im_M_first : Cond.instanceMethod y_M_first ∈ gT := List.mem_filter.mpr ⟨List.mem_append_right _ (List.mem_of_getElem? (i := 213) (by decide +kernel)), by decide +kernel⟩
theorem i_sl_M_first : Cond.selects R_M y_M_first y_M_first ∈ gT := List.mem_filter.mpr ⟨List.mem_append_right _ (List.mem_of_getElem? (i := 214) (by decide +kernel)), by decide +kernel⟩
theorem f_M_first : gY R_M y_M_first b_M_first 3 (some .int) 1 := ⟨i_im_M_first, i_sl_M_first, i_init_M, i_code_M_first, by decide +kernel⟩
theorem i_code_M_different : Cond.code y_M_different b_M_different 3 (some .int) ∈ gT := List.mem_filter.mpr ⟨List.mem_append_right _ (List.mem_of_getElem? (i := 223) (by rfl)), by rfl⟩
theorem i_im_M_different : Cond.instanceMethod y_M_different ∈ gT := List.mem_filter.mpr ⟨List.mem_append_right _ (List.mem_of_getElem? (i := 221) (by decide +kernel)), by decide +kernel⟩
theorem i_sl_M_different : Cond.selects R_M y_M_different y_M_different ∈ gT := List.mem_filter.mpr ⟨List.mem_append_right _ (List.mem_of_getElem? (i := 222) (by decide +kernel)), by decide +kernel⟩
theorem f_M_different : gY R_M y_M_different b_M_different 3 (some .int) 0 := ⟨i_im_M_different, i_sl_M_different, i_init_M, i_code_M_different, by decide +kernel⟩
theorem i_code_M_compare : Cond.code y_M_compare b_M_compare 3 (some .int) ∈ gT := List.mem_filter.mpr ⟨List.mem_append_right _ (List.mem_of_getElem? (i := 228) (by rfl)), by rfl⟩
theorem i_im_M_compare : Cond.instanceMethod y_M_compare ∈ gT := List.mem_filter.mpr ⟨List.mem_append_right _ (List.mem_of_getElem? (i := 226) (by decide +kernel)), by decide +kernel⟩
theorem i_sl_M_compare : Cond.selects R_M y_M_compare y_M_compare ∈ gT := List.mem_filter.mpr ⟨List.mem_append_right _ (List.mem_of_getElem? (i := 227) (by decide +kernel)), by decide +kernel⟩
theorem f_M_compare : gY R_M y_M_compare b_M_compare 3 (some .int) 2 := ⟨i_im_M_compare, i_sl_M_compare, i_init_M, i_code_M_compare, by decide +kernel⟩
theorem i_code_M_distance : Cond.code y_M_distance b_M_distance 7 (some .int) ∈ gT := List.mem_filter.mpr ⟨List.mem_append_right _ (List.mem_of_getElem? (i := 240) (by rfl)), by rfl⟩
theorem i_im_M_distance : Cond.instanceMethod y_M_distance ∈ gT := List.mem_filter.mpr ⟨List.mem_append_right _ (List.mem_of_getElem? (i := 239) (by decide +kernel)), by decide +kernel⟩
theorem i_sl_M_distance : Cond.selects R_M y_M_distance y_M_distance ∈ gT := List.mem_filter.mpr ⟨List.mem_append_left _ (List.mem_of_getElem? (i := 20) (by decide +kernel)), by decide +kernel⟩
theorem f_M_distance : gY R_M y_M_distance b_M_distance 7 (some .int) 2 := ⟨i_im_M_distance, i_sl_M_distance, i_init_M, i_code_M_distance, by decide +kernel⟩
theorem i_code_M_apart : Cond.code y_M_apart b_M_apart 2 (some .int) ∈ gT := List.mem_filter.mpr ⟨List.mem_append_right _ (List.mem_of_getElem? (i := 232) (by rfl)), by rfl⟩
theorem i_im_M_apart : Cond.instanceMethod y_M_apart ∈ gT := List.mem_filter.mpr ⟨List.mem_append_right _ (List.mem_of_getElem? (i := 230) (by decide +kernel)), by decide +kernel⟩
theorem i_sl_M_apart : Cond.selects R_M y_M_apart y_M_apart ∈ gT := List.mem_filter.mpr ⟨List.mem_append_right _ (List.mem_of_getElem? (i := 231) (by decide +kernel)), by decide +kernel⟩
theorem f_M_apart : gY R_M y_M_apart b_M_apart 2 (some .int) 1 := ⟨i_im_M_apart, i_sl_M_apart, i_init_M, i_code_M_apart, by decide +kernel⟩
theorem i_code_M_nearest : Cond.code y_M_nearest b_M_nearest 5 (some .int) ∈ gT := List.mem_filter.mpr ⟨List.mem_append_right _ (List.mem_of_getElem? (i := 244) (by rfl)), by rfl⟩
theorem i_im_M_nearest : Cond.instanceMethod y_M_nearest ∈ gT := List.mem_filter.mpr ⟨List.mem_append_right _ (List.mem_of_getElem? (i := 242) (by decide +kernel)), by decide +kernel⟩
theorem i_sl_M_nearest : Cond.selects R_M y_M_nearest y_M_nearest ∈ gT := List.mem_filter.mpr ⟨List.mem_append_right _ (List.mem_of_getElem? (i := 243) (by decide +kernel)), by decide +kernel⟩
theorem f_M_nearest : gY R_M y_M_nearest b_M_nearest 5 (some .int) 0 := ⟨i_im_M_nearest, i_sl_M_nearest, i_init_M, i_code_M_nearest, by decide +kernel⟩
theorem i_code_M_plain : Cond.code y_M_plain b_M_plain 1 (some .int) ∈ gT := List.mem_filter.mpr ⟨List.mem_append_right _ (List.mem_of_getElem? (i := 248) (by rfl)), by rfl⟩
theorem i_im_M_plain : Cond.instanceMethod y_M_plain ∈ gT := List.mem_filter.mpr ⟨List.mem_append_right _ (List.mem_of_getElem? (i := 246) (by decide +kernel)), by decide +kernel⟩
theorem i_sl_M_plain : Cond.selects R_M y_M_plain y_M_plain ∈ gT := List.mem_filter.mpr ⟨List.mem_append_right _ (List.mem_of_getElem? (i := 247) (by decide +kernel)), by decide +kernel⟩
theorem f_M_plain : gY R_M y_M_plain b_M_plain 1 (some .int) 0 := ⟨i_im_M_plain, i_sl_M_plain, i_init_M, i_code_M_plain, by decide +kernel⟩
theorem lm_X_objectInit : Cond.methodLink R_X 3 objectInit ∈ gT := List.mem_filter.mpr ⟨List.mem_append_right _ (List.mem_of_getElem? (i := 11) (by decide +kernel)), by decide +kernel⟩
theorem lm_X_putFour : Cond.methodLink R_X 30 y_X_putFour ∈ gT := List.mem_filter.mpr ⟨List.mem_append_right _ (List.mem_of_getElem? (i := 39) (by decide +kernel)), by decide +kernel⟩
theorem lm_X_isSign : Cond.methodLink R_X 34 y_X_isSign ∈ gT := List.mem_filter.mpr ⟨List.mem_append_right _ (List.mem_of_getElem? (i := 54) (by decide +kernel)), by decide +kernel⟩
theorem lm_X_addTerm : Cond.methodLink R_X 38 y_X_addTerm ∈ gT := List.mem_filter.mpr ⟨List.mem_append_right _ (List.mem_of_getElem? (i := 57) (by decide +kernel)), by decide +kernel⟩
theorem lm_X_hasTerm : Cond.methodLink R_X 42 y_X_hasTerm ∈ gT := List.mem_filter.mpr ⟨List.mem_append_right _ (List.mem_of_getElem? (i := 87) (by decide +kernel)), by decide +kernel⟩
theorem lm_X_signAt : Cond.methodLink R_X 46 y_X_signAt ∈ gT := List.mem_filter.mpr ⟨List.mem_append_right _ (List.mem_of_getElem? (i := 91) (by decide +kernel)), by decide +kernel⟩
theorem lm_X_firstSame : Cond.methodLink R_X 50 y_X_firstSame ∈ gT := List.mem_filter.mpr ⟨List.mem_append_right _ (List.mem_of_getElem? (i := 99) (by decide +kernel)), by decide +kernel⟩
theorem lm_X_order : Cond.methodLink R_X 54 y_X_order ∈ gT := List.mem_filter.mpr ⟨List.mem_append_right _ (List.mem_of_getElem? (i := 103) (by decide +kernel)), by decide +kernel⟩
theorem lm_X_takeTapeTerm : Cond.methodLink R_X 57 y_X_takeTapeTerm ∈ gT := List.mem_filter.mpr ⟨List.mem_append_right _ (List.mem_of_getElem? (i := 122) (by decide +kernel)), by decide +kernel⟩
theorem lm_X_distance : Cond.methodLink R_X 61 y_X_distance ∈ gT := List.mem_filter.mpr ⟨List.mem_append_right _ (List.mem_of_getElem? (i := 130) (by decide +kernel)), by decide +kernel⟩
theorem lm_X_tapeIsWord : Cond.methodLink R_X 64 y_X_tapeIsWord ∈ gT := List.mem_filter.mpr ⟨List.mem_append_right _ (List.mem_of_getElem? (i := 126) (by decide +kernel)), by decide +kernel⟩
theorem lm_X_writeSigns : Cond.methodLink R_X 67 y_X_writeSigns ∈ gT := List.mem_filter.mpr ⟨List.mem_append_right _ (List.mem_of_getElem? (i := 69) (by decide +kernel)), by decide +kernel⟩
theorem lm_X_small : Cond.methodLink R_X 71 y_X_small ∈ gT := List.mem_filter.mpr ⟨List.mem_append_right _ (List.mem_of_getElem? (i := 43) (by decide +kernel)), by decide +kernel⟩
theorem lm_X_writeTerm : Cond.methodLink R_X 75 y_X_writeTerm ∈ gT := List.mem_filter.mpr ⟨List.mem_append_right _ (List.mem_of_getElem? (i := 61) (by decide +kernel)), by decide +kernel⟩
theorem lm_X_endsWithIes : Cond.methodLink R_X 78 y_X_endsWithIes ∈ gT := List.mem_filter.mpr ⟨List.mem_append_right _ (List.mem_of_getElem? (i := 65) (by decide +kernel)), by decide +kernel⟩
theorem lm_X_endsWithLooseS : Cond.methodLink R_X 81 y_X_endsWithLooseS ∈ gT := List.mem_filter.mpr ⟨List.mem_append_right _ (List.mem_of_getElem? (i := 79) (by decide +kernel)), by decide +kernel⟩
theorem lm_X_Math_min : Cond.methodLink R_X 84 Lib.Math.min.name ∈ gT := List.mem_filter.mpr ⟨List.mem_append_right _ (List.mem_of_getElem? (i := 73) (by decide +kernel)), by decide +kernel⟩
theorem lm_X_System_arraycopy : Cond.methodLink R_X 89 arraycopyName ∈ gT := List.mem_filter.mpr ⟨List.mem_append_right _ (List.mem_of_getElem? (i := 76) (by decide +kernel)), by decide +kernel⟩
theorem lm_X_Integer_compare : Cond.methodLink R_X 95 y_Integer_compare ∈ gT := List.mem_filter.mpr ⟨List.mem_append_right _ (List.mem_of_getElem? (i := 107) (by decide +kernel)), by decide +kernel⟩
theorem lm_M_objectInit : Cond.methodLink R_M 1 objectInit ∈ gT := List.mem_filter.mpr ⟨List.mem_append_right _ (List.mem_of_getElem? (i := 147) (by decide +kernel)), by decide +kernel⟩
theorem lm_M_put : Cond.methodLink R_M 30 y_M_put ∈ gT := List.mem_filter.mpr ⟨List.mem_append_right _ (List.mem_of_getElem? (i := 177) (by decide +kernel)), by decide +kernel⟩
theorem lm_M_letter : Cond.methodLink R_M 37 y_M_letter ∈ gT := List.mem_filter.mpr ⟨List.mem_append_right _ (List.mem_of_getElem? (i := 189) (by decide +kernel)), by decide +kernel⟩
theorem lm_M_last : Cond.methodLink R_M 41 y_M_last ∈ gT := List.mem_filter.mpr ⟨List.mem_append_right _ (List.mem_of_getElem? (i := 200) (by decide +kernel)), by decide +kernel⟩
theorem lm_M_run : Cond.methodLink R_M 45 y_M_run ∈ gT := List.mem_filter.mpr ⟨List.mem_append_right _ (List.mem_of_getElem? (i := 192) (by decide +kernel)), by decide +kernel⟩
theorem lm_M_note : Cond.methodLink R_M 51 y_M_note ∈ gT := List.mem_filter.mpr ⟨List.mem_append_right _ (List.mem_of_getElem? (i := 196) (by decide +kernel)), by decide +kernel⟩
theorem lm_M_is : Cond.methodLink R_M 55 y_M_is ∈ gT := List.mem_filter.mpr ⟨List.mem_append_right _ (List.mem_of_getElem? (i := 208) (by decide +kernel)), by decide +kernel⟩
theorem lm_M_order : Cond.methodLink R_M 58 y_M_order ∈ gT := List.mem_filter.mpr ⟨List.mem_append_right _ (List.mem_of_getElem? (i := 216) (by decide +kernel)), by decide +kernel⟩
theorem lm_M_first : Cond.methodLink R_M 62 y_M_first ∈ gT := List.mem_filter.mpr ⟨List.mem_append_right _ (List.mem_of_getElem? (i := 224) (by decide +kernel)), by decide +kernel⟩
theorem lm_M_oneWord : Cond.methodLink R_M 65 y_M_oneWord ∈ gT := List.mem_filter.mpr ⟨List.mem_append_right _ (List.mem_of_getElem? (i := 233) (by decide +kernel)), by decide +kernel⟩
theorem lm_M_distance : Cond.methodLink R_M 69 y_M_distance ∈ gT := List.mem_filter.mpr ⟨List.mem_append_right _ (List.mem_of_getElem? (i := 237) (by decide +kernel)), by decide +kernel⟩
theorem i_clink_X : Cond.classLink "WordTermsLaw" 7 R_X ∈ gT := List.mem_filter.mpr ⟨List.mem_append_right _ (List.mem_of_getElem? (i := 6) (by decide +kernel)), by decide +kernel⟩
theorem lm_L_X_init : Cond.methodLink "WordTermsLaw" 9 y_X_init ∈ gT := List.mem_filter.mpr ⟨List.mem_append_right _ (List.mem_of_getElem? (i := 8) (by decide +kernel)), by decide +kernel⟩
theorem i_clink_M : Cond.classLink "WordTermsLaw" 10 R_M ∈ gT := List.mem_filter.mpr ⟨List.mem_append_right _ (List.mem_of_getElem? (i := 142) (by decide +kernel)), by decide +kernel⟩
theorem lm_L_M_init : Cond.methodLink "WordTermsLaw" 12 y_M_init ∈ gT := List.mem_filter.mpr ⟨List.mem_append_right _ (List.mem_of_getElem? (i := 144) (by decide +kernel)), by decide +kernel⟩
theorem lm_L_X_feed : Cond.methodLink "WordTermsLaw" 13 y_X_feed ∈ gT := List.mem_filter.mpr ⟨List.mem_append_right _ (List.mem_of_getElem? (i := 35) (by decide +kernel)), by decide +kernel⟩
theorem lm_L_M_feed : Cond.methodLink "WordTermsLaw" 17 y_M_feed ∈ gT := List.mem_filter.mpr ⟨List.mem_append_right _ (List.mem_of_getElem? (i := 173) (by decide +kernel)), by decide +kernel⟩
theorem lm_L_X_end : Cond.methodLink "WordTermsLaw" 18 y_X_end ∈ gT := List.mem_filter.mpr ⟨List.mem_append_right _ (List.mem_of_getElem? (i := 46) (by decide +kernel)), by decide +kernel⟩
theorem lm_L_M_end : Cond.methodLink "WordTermsLaw" 22 y_M_end ∈ gT := List.mem_filter.mpr ⟨List.mem_append_right _ (List.mem_of_getElem? (i := 181) (by decide +kernel)), by decide +kernel⟩
theorem lm_L_X_read : Cond.methodLink "WordTermsLaw" 23 y_X_read ∈ gT := List.mem_filter.mpr ⟨List.mem_append_right _ (List.mem_of_getElem? (i := 50) (by decide +kernel)), by decide +kernel⟩
theorem lm_L_M_read : Cond.methodLink "WordTermsLaw" 27 y_M_read ∈ gT := List.mem_filter.mpr ⟨List.mem_append_right _ (List.mem_of_getElem? (i := 185) (by decide +kernel)), by decide +kernel⟩
theorem lm_L_X_sign : Cond.methodLink "WordTermsLaw" 28 y_X_sign ∈ gT := List.mem_filter.mpr ⟨List.mem_append_right _ (List.mem_of_getElem? (i := 83) (by decide +kernel)), by decide +kernel⟩
theorem lm_L_M_sign : Cond.methodLink "WordTermsLaw" 32 y_M_sign ∈ gT := List.mem_filter.mpr ⟨List.mem_append_right _ (List.mem_of_getElem? (i := 204) (by decide +kernel)), by decide +kernel⟩
theorem lm_L_X_different : Cond.methodLink "WordTermsLaw" 33 y_X_different ∈ gT := List.mem_filter.mpr ⟨List.mem_append_right _ (List.mem_of_getElem? (i := 95) (by decide +kernel)), by decide +kernel⟩
theorem lm_L_M_different : Cond.methodLink "WordTermsLaw" 36 y_M_different ∈ gT := List.mem_filter.mpr ⟨List.mem_append_right _ (List.mem_of_getElem? (i := 220) (by decide +kernel)), by decide +kernel⟩
theorem lm_L_X_first : Cond.methodLink "WordTermsLaw" 37 y_X_first ∈ gT := List.mem_filter.mpr ⟨List.mem_append_right _ (List.mem_of_getElem? (i := 110) (by decide +kernel)), by decide +kernel⟩
theorem lm_L_M_first : Cond.methodLink "WordTermsLaw" 40 y_M_first ∈ gT := List.mem_filter.mpr ⟨List.mem_append_right _ (List.mem_of_getElem? (i := 212) (by decide +kernel)), by decide +kernel⟩
theorem lm_L_X_compare : Cond.methodLink "WordTermsLaw" 41 y_X_compare ∈ gT := List.mem_filter.mpr ⟨List.mem_append_right _ (List.mem_of_getElem? (i := 114) (by decide +kernel)), by decide +kernel⟩
theorem lm_L_M_compare : Cond.methodLink "WordTermsLaw" 44 y_M_compare ∈ gT := List.mem_filter.mpr ⟨List.mem_append_right _ (List.mem_of_getElem? (i := 225) (by decide +kernel)), by decide +kernel⟩
theorem lm_L_X_apart : Cond.methodLink "WordTermsLaw" 45 y_X_apart ∈ gT := List.mem_filter.mpr ⟨List.mem_append_right _ (List.mem_of_getElem? (i := 118) (by decide +kernel)), by decide +kernel⟩
theorem lm_L_M_apart : Cond.methodLink "WordTermsLaw" 48 y_M_apart ∈ gT := List.mem_filter.mpr ⟨List.mem_append_right _ (List.mem_of_getElem? (i := 229) (by decide +kernel)), by decide +kernel⟩
theorem lm_L_X_nearest : Cond.methodLink "WordTermsLaw" 49 y_X_nearest ∈ gT := List.mem_filter.mpr ⟨List.mem_append_right _ (List.mem_of_getElem? (i := 134) (by decide +kernel)), by decide +kernel⟩
theorem lm_L_M_nearest : Cond.methodLink "WordTermsLaw" 52 y_M_nearest ∈ gT := List.mem_filter.mpr ⟨List.mem_append_right _ (List.mem_of_getElem? (i := 241) (by decide +kernel)), by decide +kernel⟩
theorem lm_L_X_plain : Cond.methodLink "WordTermsLaw" 53 y_X_plain ∈ gT := List.mem_filter.mpr ⟨List.mem_append_right _ (List.mem_of_getElem? (i := 138) (by decide +kernel)), by decide +kernel⟩
theorem lm_L_M_plain : Cond.methodLink "WordTermsLaw" 56 y_M_plain ∈ gT := List.mem_filter.mpr ⟨List.mem_append_right _ (List.mem_of_getElem? (i := 245) (by decide +kernel)), by decide +kernel⟩
end
section
theorem d_X_init_0 : decode b_X_init 0 = .ok (.aload_n 0, 1) := by decide +kernel
theorem d_X_init_1 : decode b_X_init 1 = .ok (.invokespecial 3, 3) := by decide +kernel
theorem d_X_init_4 : decode b_X_init 4 = .ok (.aload_n 0, 1) := by decide +kernel
theorem d_X_init_5 : decode b_X_init 5 = .ok (.sipush 300, 3) := by decide +kernel
theorem d_X_init_8 : decode b_X_init 8 = .ok (.newarray .byte, 2) := by decide +kernel
theorem d_X_init_10 : decode b_X_init 10 = .ok (.putfield 9, 3) := by decide +kernel
theorem d_X_init_13 : decode b_X_init 13 = .ok (.aload_n 0, 1) := by decide +kernel
theorem d_X_init_14 : decode b_X_init 14 = .ok (.iconst 0, 1) := by decide +kernel
theorem d_X_init_15 : decode b_X_init 15 = .ok (.putfield 13, 3) := by decide +kernel
theorem d_X_init_18 : decode b_X_init 18 = .ok (.aload_n 0, 1) := by decide +kernel
theorem d_X_init_19 : decode b_X_init 19 = .ok (.sipush 3624, 3) := by decide +kernel
theorem d_X_init_22 : decode b_X_init 22 = .ok (.newarray .byte, 2) := by decide +kernel
theorem d_X_init_24 : decode b_X_init 24 = .ok (.putfield 17, 3) := by decide +kernel
theorem d_X_init_27 : decode b_X_init 27 = .ok (.aload_n 0, 1) := by decide +kernel
theorem d_X_init_28 : decode b_X_init 28 = .ok (.sipush 151, 3) := by decide +kernel
theorem d_X_init_31 : decode b_X_init 31 = .ok (.newarray .int, 2) := by decide +kernel
theorem d_X_init_33 : decode b_X_init 33 = .ok (.putfield 20, 3) := by decide +kernel
theorem d_X_init_36 : decode b_X_init 36 = .ok (.aload_n 0, 1) := by decide +kernel
theorem d_X_init_37 : decode b_X_init 37 = .ok (.iconst 0, 1) := by decide +kernel
theorem d_X_init_38 : decode b_X_init 38 = .ok (.putfield 24, 3) := by decide +kernel
theorem d_X_init_41 : decode b_X_init 41 = .ok (.aload_n 0, 1) := by decide +kernel
theorem d_X_init_42 : decode b_X_init 42 = .ok (.bipush 25, 2) := by decide +kernel
theorem d_X_init_44 : decode b_X_init 44 = .ok (.newarray .int, 2) := by decide +kernel
theorem d_X_init_46 : decode b_X_init 46 = .ok (.putfield 27, 3) := by decide +kernel
theorem d_X_init_49 : decode b_X_init 49 = .ok (.return_, 1) := by decide +kernel
theorem d_X_feed_0 : decode b_X_feed 0 = .ok (.aload_n 0, 1) := by decide +kernel
theorem d_X_feed_1 : decode b_X_feed 1 = .ok (.getfield 13, 3) := by decide +kernel
theorem d_X_feed_4 : decode b_X_feed 4 = .ok (.bipush 20, 2) := by decide +kernel
theorem d_X_feed_6 : decode b_X_feed 6 = .ok (.iadd, 1) := by decide +kernel
theorem d_X_feed_7 : decode b_X_feed 7 = .ok (.sipush 300, 3) := by decide +kernel
theorem d_X_feed_10 : decode b_X_feed 10 = .ok (.if_icmp .le 6, 3) := by decide +kernel
theorem d_X_feed_13 : decode b_X_feed 13 = .ok (.bipush (-3), 2) := by decide +kernel
theorem d_X_feed_15 : decode b_X_feed 15 = .ok (.ireturn, 1) := by decide +kernel
theorem d_X_feed_16 : decode b_X_feed 16 = .ok (.aload_n 0, 1) := by decide +kernel
theorem d_X_feed_17 : decode b_X_feed 17 = .ok (.iload_n 1, 1) := by decide +kernel
theorem d_X_feed_18 : decode b_X_feed 18 = .ok (.invokevirtual 30, 3) := by decide +kernel
theorem d_X_feed_21 : decode b_X_feed 21 = .ok (.aload_n 0, 1) := by decide +kernel
theorem d_X_feed_22 : decode b_X_feed 22 = .ok (.iload_n 2, 1) := by decide +kernel
theorem d_X_feed_23 : decode b_X_feed 23 = .ok (.invokevirtual 30, 3) := by decide +kernel
theorem d_X_feed_26 : decode b_X_feed 26 = .ok (.aload_n 0, 1) := by decide +kernel
theorem d_X_feed_27 : decode b_X_feed 27 = .ok (.iload_n 3, 1) := by decide +kernel
theorem d_X_feed_28 : decode b_X_feed 28 = .ok (.invokevirtual 30, 3) := by decide +kernel
theorem d_X_feed_31 : decode b_X_feed 31 = .ok (.aload_n 0, 1) := by decide +kernel
theorem d_X_feed_32 : decode b_X_feed 32 = .ok (.iload 4, 2) := by decide +kernel
theorem d_X_feed_34 : decode b_X_feed 34 = .ok (.invokevirtual 30, 3) := by decide +kernel
theorem d_X_feed_37 : decode b_X_feed 37 = .ok (.aload_n 0, 1) := by decide +kernel
theorem d_X_feed_38 : decode b_X_feed 38 = .ok (.iload 5, 2) := by decide +kernel
theorem d_X_feed_40 : decode b_X_feed 40 = .ok (.invokevirtual 30, 3) := by decide +kernel
theorem d_X_feed_43 : decode b_X_feed 43 = .ok (.aload_n 0, 1) := by decide +kernel
theorem d_X_feed_44 : decode b_X_feed 44 = .ok (.getfield 13, 3) := by decide +kernel
theorem d_X_feed_47 : decode b_X_feed 47 = .ok (.ireturn, 1) := by decide +kernel
theorem d_X_end_0 : decode b_X_end 0 = .ok (.iload_n 1, 1) := by decide +kernel
theorem d_X_end_1 : decode b_X_end 1 = .ok (.ifCond .lt 11, 3) := by decide +kernel
theorem d_X_end_4 : decode b_X_end 4 = .ok (.iload_n 1, 1) := by decide +kernel
theorem d_X_end_5 : decode b_X_end 5 = .ok (.aload_n 0, 1) := by decide +kernel
theorem d_X_end_6 : decode b_X_end 6 = .ok (.getfield 13, 3) := by decide +kernel
theorem d_X_end_9 : decode b_X_end 9 = .ok (.if_icmp .le 5, 3) := by decide +kernel
theorem d_X_end_12 : decode b_X_end 12 = .ok (.iconst (-1), 1) := by decide +kernel
theorem d_X_end_13 : decode b_X_end 13 = .ok (.ireturn, 1) := by decide +kernel
theorem d_X_end_14 : decode b_X_end 14 = .ok (.aload_n 0, 1) := by decide +kernel
theorem d_X_end_15 : decode b_X_end 15 = .ok (.iload_n 1, 1) := by decide +kernel
theorem d_X_end_16 : decode b_X_end 16 = .ok (.putfield 13, 3) := by decide +kernel
theorem d_X_end_19 : decode b_X_end 19 = .ok (.iload_n 1, 1) := by decide +kernel
theorem d_X_end_20 : decode b_X_end 20 = .ok (.ireturn, 1) := by decide +kernel
theorem d_X_read_0 : decode b_X_read 0 = .ok (.aload_n 0, 1) := by decide +kernel
theorem d_X_read_1 : decode b_X_read 1 = .ok (.iconst 0, 1) := by decide +kernel
theorem d_X_read_2 : decode b_X_read 2 = .ok (.putfield 24, 3) := by decide +kernel
theorem d_X_read_5 : decode b_X_read 5 = .ok (.iconst 0, 1) := by decide +kernel
theorem d_X_read_6 : decode b_X_read 6 = .ok (.istore_n 1, 1) := by decide +kernel
theorem d_X_read_7 : decode b_X_read 7 = .ok (.iconst 0, 1) := by decide +kernel
theorem d_X_read_8 : decode b_X_read 8 = .ok (.istore_n 2, 1) := by decide +kernel
theorem d_X_read_9 : decode b_X_read 9 = .ok (.iload_n 2, 1) := by decide +kernel
theorem d_X_read_10 : decode b_X_read 10 = .ok (.aload_n 0, 1) := by decide +kernel
theorem d_X_read_11 : decode b_X_read 11 = .ok (.getfield 13, 3) := by decide +kernel
theorem d_X_read_14 : decode b_X_read 14 = .ok (.if_icmp .gt 44, 3) := by decide +kernel
theorem d_X_read_17 : decode b_X_read 17 = .ok (.iload_n 2, 1) := by decide +kernel
theorem d_X_read_18 : decode b_X_read 18 = .ok (.aload_n 0, 1) := by decide +kernel
theorem d_X_read_19 : decode b_X_read 19 = .ok (.getfield 13, 3) := by decide +kernel
theorem d_X_read_22 : decode b_X_read 22 = .ok (.if_icmp .eq 15, 3) := by decide +kernel
theorem d_X_read_25 : decode b_X_read 25 = .ok (.aload_n 0, 1) := by decide +kernel
theorem d_X_read_26 : decode b_X_read 26 = .ok (.getfield 9, 3) := by decide +kernel
theorem d_X_read_29 : decode b_X_read 29 = .ok (.iload_n 2, 1) := by decide +kernel
theorem d_X_read_30 : decode b_X_read 30 = .ok (.baload, 1) := by decide +kernel
theorem d_X_read_31 : decode b_X_read 31 = .ok (.invokestatic 34, 3) := by decide +kernel
theorem d_X_read_34 : decode b_X_read 34 = .ok (.ifCond .ne 18, 3) := by decide +kernel
theorem d_X_read_37 : decode b_X_read 37 = .ok (.iload_n 1, 1) := by decide +kernel
theorem d_X_read_38 : decode b_X_read 38 = .ok (.iload_n 2, 1) := by decide +kernel
theorem d_X_read_39 : decode b_X_read 39 = .ok (.if_icmp .ge 9, 3) := by decide +kernel
theorem d_X_read_42 : decode b_X_read 42 = .ok (.aload_n 0, 1) := by decide +kernel
theorem d_X_read_43 : decode b_X_read 43 = .ok (.iload_n 1, 1) := by decide +kernel
theorem d_X_read_44 : decode b_X_read 44 = .ok (.iload_n 2, 1) := by decide +kernel
theorem d_X_read_45 : decode b_X_read 45 = .ok (.invokevirtual 38, 3) := by decide +kernel
theorem d_X_read_48 : decode b_X_read 48 = .ok (.iload_n 2, 1) := by decide +kernel
theorem d_X_read_49 : decode b_X_read 49 = .ok (.iconst 1, 1) := by decide +kernel
theorem d_X_read_50 : decode b_X_read 50 = .ok (.iadd, 1) := by decide +kernel
theorem d_X_read_51 : decode b_X_read 51 = .ok (.istore_n 1, 1) := by decide +kernel
theorem d_X_read_52 : decode b_X_read 52 = .ok (.iinc 2 1, 3) := by decide +kernel
theorem d_X_read_55 : decode b_X_read 55 = .ok (.goto (-46), 3) := by decide +kernel
theorem d_X_read_58 : decode b_X_read 58 = .ok (.aload_n 0, 1) := by decide +kernel
theorem d_X_read_59 : decode b_X_read 59 = .ok (.iconst 0, 1) := by decide +kernel
theorem d_X_read_60 : decode b_X_read 60 = .ok (.putfield 13, 3) := by decide +kernel
theorem d_X_read_63 : decode b_X_read 63 = .ok (.aload_n 0, 1) := by decide +kernel
theorem d_X_read_64 : decode b_X_read 64 = .ok (.getfield 24, 3) := by decide +kernel
theorem d_X_read_67 : decode b_X_read 67 = .ok (.ireturn, 1) := by decide +kernel
theorem d_X_sign_0 : decode b_X_sign 0 = .ok (.aload_n 0, 1) := by decide +kernel
theorem d_X_sign_1 : decode b_X_sign 1 = .ok (.iload_n 1, 1) := by decide +kernel
theorem d_X_sign_2 : decode b_X_sign 2 = .ok (.invokevirtual 42, 3) := by decide +kernel
theorem d_X_sign_5 : decode b_X_sign 5 = .ok (.ifCond .eq 18, 3) := by decide +kernel
theorem d_X_sign_8 : decode b_X_sign 8 = .ok (.iload_n 2, 1) := by decide +kernel
theorem d_X_sign_9 : decode b_X_sign 9 = .ok (.iconst (-1), 1) := by decide +kernel
theorem d_X_sign_10 : decode b_X_sign 10 = .ok (.if_icmp .lt 13, 3) := by decide +kernel
theorem d_X_sign_13 : decode b_X_sign 13 = .ok (.iload_n 2, 1) := by decide +kernel
theorem d_X_sign_14 : decode b_X_sign 14 = .ok (.aload_n 0, 1) := by decide +kernel
theorem d_X_sign_15 : decode b_X_sign 15 = .ok (.getfield 20, 3) := by decide +kernel
theorem d_X_sign_18 : decode b_X_sign 18 = .ok (.iload_n 1, 1) := by decide +kernel
theorem d_X_sign_19 : decode b_X_sign 19 = .ok (.iaload, 1) := by decide +kernel
theorem d_X_sign_20 : decode b_X_sign 20 = .ok (.if_icmp .lt 6, 3) := by decide +kernel
theorem d_X_sign_23 : decode b_X_sign 23 = .ok (.bipush (-2), 2) := by decide +kernel
theorem d_X_sign_25 : decode b_X_sign 25 = .ok (.ireturn, 1) := by decide +kernel
theorem d_X_sign_26 : decode b_X_sign 26 = .ok (.iload_n 2, 1) := by decide +kernel
theorem d_X_sign_27 : decode b_X_sign 27 = .ok (.iconst (-1), 1) := by decide +kernel
theorem d_X_sign_28 : decode b_X_sign 28 = .ok (.if_icmp .ne 12, 3) := by decide +kernel
theorem d_X_sign_31 : decode b_X_sign 31 = .ok (.aload_n 0, 1) := by decide +kernel
theorem d_X_sign_32 : decode b_X_sign 32 = .ok (.getfield 20, 3) := by decide +kernel
theorem d_X_sign_35 : decode b_X_sign 35 = .ok (.iload_n 1, 1) := by decide +kernel
theorem d_X_sign_36 : decode b_X_sign 36 = .ok (.iaload, 1) := by decide +kernel
theorem d_X_sign_37 : decode b_X_sign 37 = .ok (.goto 9, 3) := by decide +kernel
theorem d_X_sign_40 : decode b_X_sign 40 = .ok (.aload_n 0, 1) := by decide +kernel
theorem d_X_sign_41 : decode b_X_sign 41 = .ok (.iload_n 1, 1) := by decide +kernel
theorem d_X_sign_42 : decode b_X_sign 42 = .ok (.iload_n 2, 1) := by decide +kernel
theorem d_X_sign_43 : decode b_X_sign 43 = .ok (.invokevirtual 46, 3) := by decide +kernel
theorem d_X_sign_46 : decode b_X_sign 46 = .ok (.ireturn, 1) := by decide +kernel
theorem d_X_different_0 : decode b_X_different 0 = .ok (.iconst 0, 1) := by decide +kernel
theorem d_X_different_1 : decode b_X_different 1 = .ok (.istore_n 1, 1) := by decide +kernel
theorem d_X_different_2 : decode b_X_different 2 = .ok (.iconst 0, 1) := by decide +kernel
theorem d_X_different_3 : decode b_X_different 3 = .ok (.istore_n 2, 1) := by decide +kernel
theorem d_X_different_4 : decode b_X_different 4 = .ok (.iload_n 2, 1) := by decide +kernel
theorem d_X_different_5 : decode b_X_different 5 = .ok (.aload_n 0, 1) := by decide +kernel
theorem d_X_different_6 : decode b_X_different 6 = .ok (.getfield 24, 3) := by decide +kernel
theorem d_X_different_9 : decode b_X_different 9 = .ok (.if_icmp .ge 21, 3) := by decide +kernel
theorem d_X_different_12 : decode b_X_different 12 = .ok (.aload_n 0, 1) := by decide +kernel
theorem d_X_different_13 : decode b_X_different 13 = .ok (.iload_n 2, 1) := by decide +kernel
theorem d_X_different_14 : decode b_X_different 14 = .ok (.invokevirtual 50, 3) := by decide +kernel
theorem d_X_different_17 : decode b_X_different 17 = .ok (.iload_n 2, 1) := by decide +kernel
theorem d_X_different_18 : decode b_X_different 18 = .ok (.if_icmp .ne 6, 3) := by decide +kernel
theorem d_X_different_21 : decode b_X_different 21 = .ok (.iinc 1 1, 3) := by decide +kernel
theorem d_X_different_24 : decode b_X_different 24 = .ok (.iinc 2 1, 3) := by decide +kernel
theorem d_X_different_27 : decode b_X_different 27 = .ok (.goto (-23), 3) := by decide +kernel
theorem d_X_different_30 : decode b_X_different 30 = .ok (.iload_n 1, 1) := by decide +kernel
theorem d_X_different_31 : decode b_X_different 31 = .ok (.ireturn, 1) := by decide +kernel
theorem d_X_first_0 : decode b_X_first 0 = .ok (.aload_n 0, 1) := by decide +kernel
theorem d_X_first_1 : decode b_X_first 1 = .ok (.iload_n 1, 1) := by decide +kernel
theorem d_X_first_2 : decode b_X_first 2 = .ok (.invokevirtual 42, 3) := by decide +kernel
theorem d_X_first_5 : decode b_X_first 5 = .ok (.ifCond .eq 11, 3) := by decide +kernel
theorem d_X_first_8 : decode b_X_first 8 = .ok (.aload_n 0, 1) := by decide +kernel
theorem d_X_first_9 : decode b_X_first 9 = .ok (.iload_n 1, 1) := by decide +kernel
theorem d_X_first_10 : decode b_X_first 10 = .ok (.invokevirtual 50, 3) := by decide +kernel
theorem d_X_first_13 : decode b_X_first 13 = .ok (.goto 5, 3) := by decide +kernel
theorem d_X_first_16 : decode b_X_first 16 = .ok (.bipush (-2), 2) := by decide +kernel
theorem d_X_first_18 : decode b_X_first 18 = .ok (.ireturn, 1) := by decide +kernel
theorem d_X_compare_0 : decode b_X_compare 0 = .ok (.aload_n 0, 1) := by decide +kernel
theorem d_X_compare_1 : decode b_X_compare 1 = .ok (.iload_n 1, 1) := by decide +kernel
theorem d_X_compare_2 : decode b_X_compare 2 = .ok (.invokevirtual 42, 3) := by decide +kernel
theorem d_X_compare_5 : decode b_X_compare 5 = .ok (.ifCond .eq 20, 3) := by decide +kernel
theorem d_X_compare_8 : decode b_X_compare 8 = .ok (.aload_n 0, 1) := by decide +kernel
theorem d_X_compare_9 : decode b_X_compare 9 = .ok (.iload_n 2, 1) := by decide +kernel
theorem d_X_compare_10 : decode b_X_compare 10 = .ok (.invokevirtual 42, 3) := by decide +kernel
theorem d_X_compare_13 : decode b_X_compare 13 = .ok (.ifCond .eq 12, 3) := by decide +kernel
theorem d_X_compare_16 : decode b_X_compare 16 = .ok (.aload_n 0, 1) := by decide +kernel
theorem d_X_compare_17 : decode b_X_compare 17 = .ok (.iload_n 1, 1) := by decide +kernel
theorem d_X_compare_18 : decode b_X_compare 18 = .ok (.iload_n 2, 1) := by decide +kernel
theorem d_X_compare_19 : decode b_X_compare 19 = .ok (.invokevirtual 54, 3) := by decide +kernel
theorem d_X_compare_22 : decode b_X_compare 22 = .ok (.goto 5, 3) := by decide +kernel
theorem d_X_compare_25 : decode b_X_compare 25 = .ok (.bipush (-2), 2) := by decide +kernel
theorem d_X_compare_27 : decode b_X_compare 27 = .ok (.ireturn, 1) := by decide +kernel
theorem d_X_apart_0 : decode b_X_apart 0 = .ok (.aload_n 0, 1) := by decide +kernel
theorem d_X_apart_1 : decode b_X_apart 1 = .ok (.iload_n 1, 1) := by decide +kernel
theorem d_X_apart_2 : decode b_X_apart 2 = .ok (.invokevirtual 42, 3) := by decide +kernel
theorem d_X_apart_5 : decode b_X_apart 5 = .ok (.ifCond .ne 6, 3) := by decide +kernel
theorem d_X_apart_8 : decode b_X_apart 8 = .ok (.bipush (-2), 2) := by decide +kernel
theorem d_X_apart_10 : decode b_X_apart 10 = .ok (.ireturn, 1) := by decide +kernel
theorem d_X_apart_11 : decode b_X_apart 11 = .ok (.aload_n 0, 1) := by decide +kernel
theorem d_X_apart_12 : decode b_X_apart 12 = .ok (.invokevirtual 57, 3) := by decide +kernel
theorem d_X_apart_15 : decode b_X_apart 15 = .ok (.ifCond .eq 14, 3) := by decide +kernel
theorem d_X_apart_18 : decode b_X_apart 18 = .ok (.aload_n 0, 1) := by decide +kernel
theorem d_X_apart_19 : decode b_X_apart 19 = .ok (.iload_n 1, 1) := by decide +kernel
theorem d_X_apart_20 : decode b_X_apart 20 = .ok (.sipush 150, 3) := by decide +kernel
theorem d_X_apart_23 : decode b_X_apart 23 = .ok (.invokevirtual 61, 3) := by decide +kernel
theorem d_X_apart_26 : decode b_X_apart 26 = .ok (.goto 4, 3) := by decide +kernel
theorem d_X_apart_29 : decode b_X_apart 29 = .ok (.iconst (-1), 1) := by decide +kernel
theorem d_X_apart_30 : decode b_X_apart 30 = .ok (.ireturn, 1) := by decide +kernel
theorem d_X_nearest_0 : decode b_X_nearest 0 = .ok (.aload_n 0, 1) := by decide +kernel
theorem d_X_nearest_1 : decode b_X_nearest 1 = .ok (.invokevirtual 57, 3) := by decide +kernel
theorem d_X_nearest_4 : decode b_X_nearest 4 = .ok (.ifCond .ne 5, 3) := by decide +kernel
theorem d_X_nearest_7 : decode b_X_nearest 7 = .ok (.iconst (-1), 1) := by decide +kernel
theorem d_X_nearest_8 : decode b_X_nearest 8 = .ok (.ireturn, 1) := by decide +kernel
theorem d_X_nearest_9 : decode b_X_nearest 9 = .ok (.bipush (-2), 2) := by decide +kernel
theorem d_X_nearest_11 : decode b_X_nearest 11 = .ok (.istore_n 1, 1) := by decide +kernel
theorem d_X_nearest_12 : decode b_X_nearest 12 = .ok (.bipush 25, 2) := by decide +kernel
theorem d_X_nearest_14 : decode b_X_nearest 14 = .ok (.istore_n 2, 1) := by decide +kernel
theorem d_X_nearest_15 : decode b_X_nearest 15 = .ok (.iconst 0, 1) := by decide +kernel
theorem d_X_nearest_16 : decode b_X_nearest 16 = .ok (.istore_n 3, 1) := by decide +kernel
theorem d_X_nearest_17 : decode b_X_nearest 17 = .ok (.iload_n 3, 1) := by decide +kernel
theorem d_X_nearest_18 : decode b_X_nearest 18 = .ok (.aload_n 0, 1) := by decide +kernel
theorem d_X_nearest_19 : decode b_X_nearest 19 = .ok (.getfield 24, 3) := by decide +kernel
theorem d_X_nearest_22 : decode b_X_nearest 22 = .ok (.if_icmp .ge 30, 3) := by decide +kernel
theorem d_X_nearest_25 : decode b_X_nearest 25 = .ok (.aload_n 0, 1) := by decide +kernel
theorem d_X_nearest_26 : decode b_X_nearest 26 = .ok (.iload_n 3, 1) := by decide +kernel
theorem d_X_nearest_27 : decode b_X_nearest 27 = .ok (.sipush 150, 3) := by decide +kernel
theorem d_X_nearest_30 : decode b_X_nearest 30 = .ok (.invokevirtual 61, 3) := by decide +kernel
theorem d_X_nearest_33 : decode b_X_nearest 33 = .ok (.istore 4, 2) := by decide +kernel
theorem d_X_nearest_35 : decode b_X_nearest 35 = .ok (.iload 4, 2) := by decide +kernel
theorem d_X_nearest_37 : decode b_X_nearest 37 = .ok (.iload_n 2, 1) := by decide +kernel
theorem d_X_nearest_38 : decode b_X_nearest 38 = .ok (.if_icmp .ge 8, 3) := by decide +kernel
theorem d_X_nearest_41 : decode b_X_nearest 41 = .ok (.iload 4, 2) := by decide +kernel
theorem d_X_nearest_43 : decode b_X_nearest 43 = .ok (.istore_n 2, 1) := by decide +kernel
theorem d_X_nearest_44 : decode b_X_nearest 44 = .ok (.iload_n 3, 1) := by decide +kernel
theorem d_X_nearest_45 : decode b_X_nearest 45 = .ok (.istore_n 1, 1) := by decide +kernel
theorem d_X_nearest_46 : decode b_X_nearest 46 = .ok (.iinc 3 1, 3) := by decide +kernel
theorem d_X_nearest_49 : decode b_X_nearest 49 = .ok (.goto (-32), 3) := by decide +kernel
theorem d_X_nearest_52 : decode b_X_nearest 52 = .ok (.iload_n 1, 1) := by decide +kernel
theorem d_X_nearest_53 : decode b_X_nearest 53 = .ok (.ireturn, 1) := by decide +kernel
theorem d_X_plain_0 : decode b_X_plain 0 = .ok (.aload_n 0, 1) := by decide +kernel
theorem d_X_plain_1 : decode b_X_plain 1 = .ok (.invokevirtual 64, 3) := by decide +kernel
theorem d_X_plain_4 : decode b_X_plain 4 = .ok (.ifCond .eq 17, 3) := by decide +kernel
theorem d_X_plain_7 : decode b_X_plain 7 = .ok (.aload_n 0, 1) := by decide +kernel
theorem d_X_plain_8 : decode b_X_plain 8 = .ok (.getfield 24, 3) := by decide +kernel
theorem d_X_plain_11 : decode b_X_plain 11 = .ok (.sipush 150, 3) := by decide +kernel
theorem d_X_plain_14 : decode b_X_plain 14 = .ok (.if_icmp .ge 7, 3) := by decide +kernel
theorem d_X_plain_17 : decode b_X_plain 17 = .ok (.iconst 1, 1) := by decide +kernel
theorem d_X_plain_18 : decode b_X_plain 18 = .ok (.goto 4, 3) := by decide +kernel
theorem d_X_plain_21 : decode b_X_plain 21 = .ok (.iconst 0, 1) := by decide +kernel
theorem d_X_plain_22 : decode b_X_plain 22 = .ok (.istore_n 1, 1) := by decide +kernel
theorem d_X_plain_23 : decode b_X_plain 23 = .ok (.iload_n 1, 1) := by decide +kernel
theorem d_X_plain_24 : decode b_X_plain 24 = .ok (.ifCond .eq 26, 3) := by decide +kernel
theorem d_X_plain_27 : decode b_X_plain 27 = .ok (.aload_n 0, 1) := by decide +kernel
theorem d_X_plain_28 : decode b_X_plain 28 = .ok (.aload_n 0, 1) := by decide +kernel
theorem d_X_plain_29 : decode b_X_plain 29 = .ok (.getfield 24, 3) := by decide +kernel
theorem d_X_plain_32 : decode b_X_plain 32 = .ok (.iconst 0, 1) := by decide +kernel
theorem d_X_plain_33 : decode b_X_plain 33 = .ok (.aload_n 0, 1) := by decide +kernel
theorem d_X_plain_34 : decode b_X_plain 34 = .ok (.getfield 13, 3) := by decide +kernel
theorem d_X_plain_37 : decode b_X_plain 37 = .ok (.invokevirtual 67, 3) := by decide +kernel
theorem d_X_plain_40 : decode b_X_plain 40 = .ok (.aload_n 0, 1) := by decide +kernel
theorem d_X_plain_41 : decode b_X_plain 41 = .ok (.dup, 1) := by decide +kernel
theorem d_X_plain_42 : decode b_X_plain 42 = .ok (.getfield 24, 3) := by decide +kernel
theorem d_X_plain_45 : decode b_X_plain 45 = .ok (.iconst 1, 1) := by decide +kernel
theorem d_X_plain_46 : decode b_X_plain 46 = .ok (.iadd, 1) := by decide +kernel
theorem d_X_plain_47 : decode b_X_plain 47 = .ok (.putfield 24, 3) := by decide +kernel
theorem d_X_plain_50 : decode b_X_plain 50 = .ok (.aload_n 0, 1) := by decide +kernel
theorem d_X_plain_51 : decode b_X_plain 51 = .ok (.iconst 0, 1) := by decide +kernel
theorem d_X_plain_52 : decode b_X_plain 52 = .ok (.putfield 13, 3) := by decide +kernel
theorem d_X_plain_55 : decode b_X_plain 55 = .ok (.iload_n 1, 1) := by decide +kernel
theorem d_X_plain_56 : decode b_X_plain 56 = .ok (.ifCond .eq 10, 3) := by decide +kernel
theorem d_X_plain_59 : decode b_X_plain 59 = .ok (.aload_n 0, 1) := by decide +kernel
theorem d_X_plain_60 : decode b_X_plain 60 = .ok (.getfield 24, 3) := by decide +kernel
theorem d_X_plain_63 : decode b_X_plain 63 = .ok (.goto 4, 3) := by decide +kernel
theorem d_X_plain_66 : decode b_X_plain 66 = .ok (.iconst (-1), 1) := by decide +kernel
theorem d_X_plain_67 : decode b_X_plain 67 = .ok (.ireturn, 1) := by decide +kernel
theorem d_X_putFour_0 : decode b_X_putFour 0 = .ok (.bipush 24, 2) := by decide +kernel
theorem d_X_putFour_2 : decode b_X_putFour 2 = .ok (.istore_n 2, 1) := by decide +kernel
theorem d_X_putFour_3 : decode b_X_putFour 3 = .ok (.iload_n 2, 1) := by decide +kernel
theorem d_X_putFour_4 : decode b_X_putFour 4 = .ok (.ifCond .lt 35, 3) := by decide +kernel
theorem d_X_putFour_7 : decode b_X_putFour 7 = .ok (.aload_n 0, 1) := by decide +kernel
theorem d_X_putFour_8 : decode b_X_putFour 8 = .ok (.getfield 9, 3) := by decide +kernel
theorem d_X_putFour_11 : decode b_X_putFour 11 = .ok (.aload_n 0, 1) := by decide +kernel
theorem d_X_putFour_12 : decode b_X_putFour 12 = .ok (.getfield 13, 3) := by decide +kernel
theorem d_X_putFour_15 : decode b_X_putFour 15 = .ok (.iload_n 1, 1) := by decide +kernel
theorem d_X_putFour_16 : decode b_X_putFour 16 = .ok (.iload_n 2, 1) := by decide +kernel
theorem d_X_putFour_17 : decode b_X_putFour 17 = .ok (.iushr, 1) := by decide +kernel
theorem d_X_putFour_18 : decode b_X_putFour 18 = .ok (.i2b, 1) := by decide +kernel
theorem d_X_putFour_19 : decode b_X_putFour 19 = .ok (.invokestatic 71, 3) := by decide +kernel
theorem d_X_putFour_22 : decode b_X_putFour 22 = .ok (.bastore, 1) := by decide +kernel
theorem d_X_putFour_23 : decode b_X_putFour 23 = .ok (.aload_n 0, 1) := by decide +kernel
theorem d_X_putFour_24 : decode b_X_putFour 24 = .ok (.dup, 1) := by decide +kernel
theorem d_X_putFour_25 : decode b_X_putFour 25 = .ok (.getfield 13, 3) := by decide +kernel
theorem d_X_putFour_28 : decode b_X_putFour 28 = .ok (.iconst 1, 1) := by decide +kernel
theorem d_X_putFour_29 : decode b_X_putFour 29 = .ok (.iadd, 1) := by decide +kernel
theorem d_X_putFour_30 : decode b_X_putFour 30 = .ok (.putfield 13, 3) := by decide +kernel
theorem d_X_putFour_33 : decode b_X_putFour 33 = .ok (.iinc 2 (-8), 3) := by decide +kernel
theorem d_X_putFour_36 : decode b_X_putFour 36 = .ok (.goto (-33), 3) := by decide +kernel
theorem d_X_putFour_39 : decode b_X_putFour 39 = .ok (.return_, 1) := by decide +kernel
theorem d_X_small_0 : decode b_X_small 0 = .ok (.iload_n 0, 1) := by decide +kernel
theorem d_X_small_1 : decode b_X_small 1 = .ok (.bipush 65, 2) := by decide +kernel
theorem d_X_small_3 : decode b_X_small 3 = .ok (.if_icmp .lt 20, 3) := by decide +kernel
theorem d_X_small_6 : decode b_X_small 6 = .ok (.iload_n 0, 1) := by decide +kernel
theorem d_X_small_7 : decode b_X_small 7 = .ok (.bipush 90, 2) := by decide +kernel
theorem d_X_small_9 : decode b_X_small 9 = .ok (.if_icmp .gt 14, 3) := by decide +kernel
theorem d_X_small_12 : decode b_X_small 12 = .ok (.iload_n 0, 1) := by decide +kernel
theorem d_X_small_13 : decode b_X_small 13 = .ok (.bipush 65, 2) := by decide +kernel
theorem d_X_small_15 : decode b_X_small 15 = .ok (.isub, 1) := by decide +kernel
theorem d_X_small_16 : decode b_X_small 16 = .ok (.bipush 97, 2) := by decide +kernel
theorem d_X_small_18 : decode b_X_small 18 = .ok (.iadd, 1) := by decide +kernel
theorem d_X_small_19 : decode b_X_small 19 = .ok (.i2b, 1) := by decide +kernel
theorem d_X_small_20 : decode b_X_small 20 = .ok (.goto 4, 3) := by decide +kernel
theorem d_X_small_23 : decode b_X_small 23 = .ok (.iload_n 0, 1) := by decide +kernel
theorem d_X_small_24 : decode b_X_small 24 = .ok (.ireturn, 1) := by decide +kernel
theorem d_X_isSign_0 : decode b_X_isSign 0 = .ok (.iload_n 0, 1) := by decide +kernel
theorem d_X_isSign_1 : decode b_X_isSign 1 = .ok (.bipush 48, 2) := by decide +kernel
theorem d_X_isSign_3 : decode b_X_isSign 3 = .ok (.if_icmp .lt 9, 3) := by decide +kernel
theorem d_X_isSign_6 : decode b_X_isSign 6 = .ok (.iload_n 0, 1) := by decide +kernel
theorem d_X_isSign_7 : decode b_X_isSign 7 = .ok (.bipush 57, 2) := by decide +kernel
theorem d_X_isSign_9 : decode b_X_isSign 9 = .ok (.if_icmp .le 15, 3) := by decide +kernel
theorem d_X_isSign_12 : decode b_X_isSign 12 = .ok (.iload_n 0, 1) := by decide +kernel
theorem d_X_isSign_13 : decode b_X_isSign 13 = .ok (.bipush 97, 2) := by decide +kernel
theorem d_X_isSign_15 : decode b_X_isSign 15 = .ok (.if_icmp .lt 13, 3) := by decide +kernel
theorem d_X_isSign_18 : decode b_X_isSign 18 = .ok (.iload_n 0, 1) := by decide +kernel
theorem d_X_isSign_19 : decode b_X_isSign 19 = .ok (.bipush 122, 2) := by decide +kernel
theorem d_X_isSign_21 : decode b_X_isSign 21 = .ok (.if_icmp .gt 7, 3) := by decide +kernel
theorem d_X_isSign_24 : decode b_X_isSign 24 = .ok (.iconst 1, 1) := by decide +kernel
theorem d_X_isSign_25 : decode b_X_isSign 25 = .ok (.goto 4, 3) := by decide +kernel
theorem d_X_isSign_28 : decode b_X_isSign 28 = .ok (.iconst 0, 1) := by decide +kernel
theorem d_X_isSign_29 : decode b_X_isSign 29 = .ok (.ireturn, 1) := by decide +kernel
theorem d_X_tapeIsWord_0 : decode b_X_tapeIsWord 0 = .ok (.iconst 0, 1) := by decide +kernel
theorem d_X_tapeIsWord_1 : decode b_X_tapeIsWord 1 = .ok (.istore_n 1, 1) := by decide +kernel
theorem d_X_tapeIsWord_2 : decode b_X_tapeIsWord 2 = .ok (.iload_n 1, 1) := by decide +kernel
theorem d_X_tapeIsWord_3 : decode b_X_tapeIsWord 3 = .ok (.aload_n 0, 1) := by decide +kernel
theorem d_X_tapeIsWord_4 : decode b_X_tapeIsWord 4 = .ok (.getfield 13, 3) := by decide +kernel
theorem d_X_tapeIsWord_7 : decode b_X_tapeIsWord 7 = .ok (.if_icmp .ge 23, 3) := by decide +kernel
theorem d_X_tapeIsWord_10 : decode b_X_tapeIsWord 10 = .ok (.aload_n 0, 1) := by decide +kernel
theorem d_X_tapeIsWord_11 : decode b_X_tapeIsWord 11 = .ok (.getfield 9, 3) := by decide +kernel
theorem d_X_tapeIsWord_14 : decode b_X_tapeIsWord 14 = .ok (.iload_n 1, 1) := by decide +kernel
theorem d_X_tapeIsWord_15 : decode b_X_tapeIsWord 15 = .ok (.baload, 1) := by decide +kernel
theorem d_X_tapeIsWord_16 : decode b_X_tapeIsWord 16 = .ok (.invokestatic 34, 3) := by decide +kernel
theorem d_X_tapeIsWord_19 : decode b_X_tapeIsWord 19 = .ok (.ifCond .ne 5, 3) := by decide +kernel
theorem d_X_tapeIsWord_22 : decode b_X_tapeIsWord 22 = .ok (.iconst 0, 1) := by decide +kernel
theorem d_X_tapeIsWord_23 : decode b_X_tapeIsWord 23 = .ok (.ireturn, 1) := by decide +kernel
theorem d_X_tapeIsWord_24 : decode b_X_tapeIsWord 24 = .ok (.iinc 1 1, 3) := by decide +kernel
theorem d_X_tapeIsWord_27 : decode b_X_tapeIsWord 27 = .ok (.goto (-25), 3) := by decide +kernel
theorem d_X_tapeIsWord_30 : decode b_X_tapeIsWord 30 = .ok (.aload_n 0, 1) := by decide +kernel
theorem d_X_tapeIsWord_31 : decode b_X_tapeIsWord 31 = .ok (.getfield 13, 3) := by decide +kernel
theorem d_X_tapeIsWord_34 : decode b_X_tapeIsWord 34 = .ok (.ifCond .le 7, 3) := by decide +kernel
theorem d_X_tapeIsWord_37 : decode b_X_tapeIsWord 37 = .ok (.iconst 1, 1) := by decide +kernel
theorem d_X_tapeIsWord_38 : decode b_X_tapeIsWord 38 = .ok (.goto 4, 3) := by decide +kernel
theorem d_X_tapeIsWord_41 : decode b_X_tapeIsWord 41 = .ok (.iconst 0, 1) := by decide +kernel
theorem d_X_tapeIsWord_42 : decode b_X_tapeIsWord 42 = .ok (.ireturn, 1) := by decide +kernel
theorem d_X_takeTapeTerm_0 : decode b_X_takeTapeTerm 0 = .ok (.aload_n 0, 1) := by decide +kernel
theorem d_X_takeTapeTerm_1 : decode b_X_takeTapeTerm 1 = .ok (.invokevirtual 64, 3) := by decide +kernel
theorem d_X_takeTapeTerm_4 : decode b_X_takeTapeTerm 4 = .ok (.istore_n 1, 1) := by decide +kernel
theorem d_X_takeTapeTerm_5 : decode b_X_takeTapeTerm 5 = .ok (.iload_n 1, 1) := by decide +kernel
theorem d_X_takeTapeTerm_6 : decode b_X_takeTapeTerm 6 = .ok (.ifCond .eq 15, 3) := by decide +kernel
theorem d_X_takeTapeTerm_9 : decode b_X_takeTapeTerm 9 = .ok (.aload_n 0, 1) := by decide +kernel
theorem d_X_takeTapeTerm_10 : decode b_X_takeTapeTerm 10 = .ok (.sipush 150, 3) := by decide +kernel
theorem d_X_takeTapeTerm_13 : decode b_X_takeTapeTerm 13 = .ok (.iconst 0, 1) := by decide +kernel
theorem d_X_takeTapeTerm_14 : decode b_X_takeTapeTerm 14 = .ok (.aload_n 0, 1) := by decide +kernel
theorem d_X_takeTapeTerm_15 : decode b_X_takeTapeTerm 15 = .ok (.getfield 13, 3) := by decide +kernel
theorem d_X_takeTapeTerm_18 : decode b_X_takeTapeTerm 18 = .ok (.invokevirtual 75, 3) := by decide +kernel
theorem d_X_takeTapeTerm_21 : decode b_X_takeTapeTerm 21 = .ok (.aload_n 0, 1) := by decide +kernel
theorem d_X_takeTapeTerm_22 : decode b_X_takeTapeTerm 22 = .ok (.iconst 0, 1) := by decide +kernel
theorem d_X_takeTapeTerm_23 : decode b_X_takeTapeTerm 23 = .ok (.putfield 13, 3) := by decide +kernel
theorem d_X_takeTapeTerm_26 : decode b_X_takeTapeTerm 26 = .ok (.iload_n 1, 1) := by decide +kernel
theorem d_X_takeTapeTerm_27 : decode b_X_takeTapeTerm 27 = .ok (.ireturn, 1) := by decide +kernel
theorem d_X_addTerm_0 : decode b_X_addTerm 0 = .ok (.aload_n 0, 1) := by decide +kernel
theorem d_X_addTerm_1 : decode b_X_addTerm 1 = .ok (.getfield 24, 3) := by decide +kernel
theorem d_X_addTerm_4 : decode b_X_addTerm 4 = .ok (.sipush 150, 3) := by decide +kernel
theorem d_X_addTerm_7 : decode b_X_addTerm 7 = .ok (.if_icmp .ge 23, 3) := by decide +kernel
theorem d_X_addTerm_10 : decode b_X_addTerm 10 = .ok (.aload_n 0, 1) := by decide +kernel
theorem d_X_addTerm_11 : decode b_X_addTerm 11 = .ok (.aload_n 0, 1) := by decide +kernel
theorem d_X_addTerm_12 : decode b_X_addTerm 12 = .ok (.getfield 24, 3) := by decide +kernel
theorem d_X_addTerm_15 : decode b_X_addTerm 15 = .ok (.iload_n 1, 1) := by decide +kernel
theorem d_X_addTerm_16 : decode b_X_addTerm 16 = .ok (.iload_n 2, 1) := by decide +kernel
theorem d_X_addTerm_17 : decode b_X_addTerm 17 = .ok (.invokevirtual 75, 3) := by decide +kernel
theorem d_X_addTerm_20 : decode b_X_addTerm 20 = .ok (.aload_n 0, 1) := by decide +kernel
theorem d_X_addTerm_21 : decode b_X_addTerm 21 = .ok (.dup, 1) := by decide +kernel
theorem d_X_addTerm_22 : decode b_X_addTerm 22 = .ok (.getfield 24, 3) := by decide +kernel
theorem d_X_addTerm_25 : decode b_X_addTerm 25 = .ok (.iconst 1, 1) := by decide +kernel
theorem d_X_addTerm_26 : decode b_X_addTerm 26 = .ok (.iadd, 1) := by decide +kernel
theorem d_X_addTerm_27 : decode b_X_addTerm 27 = .ok (.putfield 24, 3) := by decide +kernel
theorem d_X_addTerm_30 : decode b_X_addTerm 30 = .ok (.return_, 1) := by decide +kernel
theorem d_X_writeTerm_0 : decode b_X_writeTerm 0 = .ok (.iload_n 3, 1) := by decide +kernel
theorem d_X_writeTerm_1 : decode b_X_writeTerm 1 = .ok (.iload_n 2, 1) := by decide +kernel
theorem d_X_writeTerm_2 : decode b_X_writeTerm 2 = .ok (.isub, 1) := by decide +kernel
theorem d_X_writeTerm_3 : decode b_X_writeTerm 3 = .ok (.istore 4, 2) := by decide +kernel
theorem d_X_writeTerm_5 : decode b_X_writeTerm 5 = .ok (.iload 4, 2) := by decide +kernel
theorem d_X_writeTerm_7 : decode b_X_writeTerm 7 = .ok (.iconst 5, 1) := by decide +kernel
theorem d_X_writeTerm_8 : decode b_X_writeTerm 8 = .ok (.if_icmp .lt 33, 3) := by decide +kernel
theorem d_X_writeTerm_11 : decode b_X_writeTerm 11 = .ok (.aload_n 0, 1) := by decide +kernel
theorem d_X_writeTerm_12 : decode b_X_writeTerm 12 = .ok (.iload_n 3, 1) := by decide +kernel
theorem d_X_writeTerm_13 : decode b_X_writeTerm 13 = .ok (.invokevirtual 78, 3) := by decide +kernel
theorem d_X_writeTerm_16 : decode b_X_writeTerm 16 = .ok (.ifCond .eq 25, 3) := by decide +kernel
theorem d_X_writeTerm_19 : decode b_X_writeTerm 19 = .ok (.aload_n 0, 1) := by decide +kernel
theorem d_X_writeTerm_20 : decode b_X_writeTerm 20 = .ok (.getfield 9, 3) := by decide +kernel
theorem d_X_writeTerm_23 : decode b_X_writeTerm 23 = .ok (.iload_n 3, 1) := by decide +kernel
theorem d_X_writeTerm_24 : decode b_X_writeTerm 24 = .ok (.iconst 3, 1) := by decide +kernel
theorem d_X_writeTerm_25 : decode b_X_writeTerm 25 = .ok (.isub, 1) := by decide +kernel
theorem d_X_writeTerm_26 : decode b_X_writeTerm 26 = .ok (.bipush 121, 2) := by decide +kernel
theorem d_X_writeTerm_28 : decode b_X_writeTerm 28 = .ok (.bastore, 1) := by decide +kernel
theorem d_X_writeTerm_29 : decode b_X_writeTerm 29 = .ok (.aload_n 0, 1) := by decide +kernel
theorem d_X_writeTerm_30 : decode b_X_writeTerm 30 = .ok (.iload_n 1, 1) := by decide +kernel
theorem d_X_writeTerm_31 : decode b_X_writeTerm 31 = .ok (.iload_n 2, 1) := by decide +kernel
theorem d_X_writeTerm_32 : decode b_X_writeTerm 32 = .ok (.iload_n 3, 1) := by decide +kernel
theorem d_X_writeTerm_33 : decode b_X_writeTerm 33 = .ok (.iconst 2, 1) := by decide +kernel
theorem d_X_writeTerm_34 : decode b_X_writeTerm 34 = .ok (.isub, 1) := by decide +kernel
theorem d_X_writeTerm_35 : decode b_X_writeTerm 35 = .ok (.invokevirtual 67, 3) := by decide +kernel
theorem d_X_writeTerm_38 : decode b_X_writeTerm 38 = .ok (.goto 36, 3) := by decide +kernel
theorem d_X_writeTerm_41 : decode b_X_writeTerm 41 = .ok (.iload 4, 2) := by decide +kernel
theorem d_X_writeTerm_43 : decode b_X_writeTerm 43 = .ok (.iconst 4, 1) := by decide +kernel
theorem d_X_writeTerm_44 : decode b_X_writeTerm 44 = .ok (.if_icmp .lt 23, 3) := by decide +kernel
theorem d_X_writeTerm_47 : decode b_X_writeTerm 47 = .ok (.aload_n 0, 1) := by decide +kernel
theorem d_X_writeTerm_48 : decode b_X_writeTerm 48 = .ok (.iload_n 3, 1) := by decide +kernel
theorem d_X_writeTerm_49 : decode b_X_writeTerm 49 = .ok (.invokevirtual 81, 3) := by decide +kernel
theorem d_X_writeTerm_52 : decode b_X_writeTerm 52 = .ok (.ifCond .eq 15, 3) := by decide +kernel
theorem d_X_writeTerm_55 : decode b_X_writeTerm 55 = .ok (.aload_n 0, 1) := by decide +kernel
theorem d_X_writeTerm_56 : decode b_X_writeTerm 56 = .ok (.iload_n 1, 1) := by decide +kernel
theorem d_X_writeTerm_57 : decode b_X_writeTerm 57 = .ok (.iload_n 2, 1) := by decide +kernel
theorem d_X_writeTerm_58 : decode b_X_writeTerm 58 = .ok (.iload_n 3, 1) := by decide +kernel
theorem d_X_writeTerm_59 : decode b_X_writeTerm 59 = .ok (.iconst 1, 1) := by decide +kernel
theorem d_X_writeTerm_60 : decode b_X_writeTerm 60 = .ok (.isub, 1) := by decide +kernel
theorem d_X_writeTerm_61 : decode b_X_writeTerm 61 = .ok (.invokevirtual 67, 3) := by decide +kernel
theorem d_X_writeTerm_64 : decode b_X_writeTerm 64 = .ok (.goto 10, 3) := by decide +kernel
theorem d_X_writeTerm_67 : decode b_X_writeTerm 67 = .ok (.aload_n 0, 1) := by decide +kernel
theorem d_X_writeTerm_68 : decode b_X_writeTerm 68 = .ok (.iload_n 1, 1) := by decide +kernel
theorem d_X_writeTerm_69 : decode b_X_writeTerm 69 = .ok (.iload_n 2, 1) := by decide +kernel
theorem d_X_writeTerm_70 : decode b_X_writeTerm 70 = .ok (.iload_n 3, 1) := by decide +kernel
theorem d_X_writeTerm_71 : decode b_X_writeTerm 71 = .ok (.invokevirtual 67, 3) := by decide +kernel
theorem d_X_writeTerm_74 : decode b_X_writeTerm 74 = .ok (.return_, 1) := by decide +kernel
theorem d_X_endsWithIes_0 : decode b_X_endsWithIes 0 = .ok (.aload_n 0, 1) := by decide +kernel
theorem d_X_endsWithIes_1 : decode b_X_endsWithIes 1 = .ok (.getfield 9, 3) := by decide +kernel
theorem d_X_endsWithIes_4 : decode b_X_endsWithIes 4 = .ok (.iload_n 1, 1) := by decide +kernel
theorem d_X_endsWithIes_5 : decode b_X_endsWithIes 5 = .ok (.iconst 3, 1) := by decide +kernel
theorem d_X_endsWithIes_6 : decode b_X_endsWithIes 6 = .ok (.isub, 1) := by decide +kernel
theorem d_X_endsWithIes_7 : decode b_X_endsWithIes 7 = .ok (.baload, 1) := by decide +kernel
theorem d_X_endsWithIes_8 : decode b_X_endsWithIes 8 = .ok (.bipush 105, 2) := by decide +kernel
theorem d_X_endsWithIes_10 : decode b_X_endsWithIes 10 = .ok (.if_icmp .ne 33, 3) := by decide +kernel
theorem d_X_endsWithIes_13 : decode b_X_endsWithIes 13 = .ok (.aload_n 0, 1) := by decide +kernel
theorem d_X_endsWithIes_14 : decode b_X_endsWithIes 14 = .ok (.getfield 9, 3) := by decide +kernel
theorem d_X_endsWithIes_17 : decode b_X_endsWithIes 17 = .ok (.iload_n 1, 1) := by decide +kernel
theorem d_X_endsWithIes_18 : decode b_X_endsWithIes 18 = .ok (.iconst 2, 1) := by decide +kernel
theorem d_X_endsWithIes_19 : decode b_X_endsWithIes 19 = .ok (.isub, 1) := by decide +kernel
theorem d_X_endsWithIes_20 : decode b_X_endsWithIes 20 = .ok (.baload, 1) := by decide +kernel
theorem d_X_endsWithIes_21 : decode b_X_endsWithIes 21 = .ok (.bipush 101, 2) := by decide +kernel
theorem d_X_endsWithIes_23 : decode b_X_endsWithIes 23 = .ok (.if_icmp .ne 20, 3) := by decide +kernel
theorem d_X_endsWithIes_26 : decode b_X_endsWithIes 26 = .ok (.aload_n 0, 1) := by decide +kernel
theorem d_X_endsWithIes_27 : decode b_X_endsWithIes 27 = .ok (.getfield 9, 3) := by decide +kernel
theorem d_X_endsWithIes_30 : decode b_X_endsWithIes 30 = .ok (.iload_n 1, 1) := by decide +kernel
theorem d_X_endsWithIes_31 : decode b_X_endsWithIes 31 = .ok (.iconst 1, 1) := by decide +kernel
theorem d_X_endsWithIes_32 : decode b_X_endsWithIes 32 = .ok (.isub, 1) := by decide +kernel
theorem d_X_endsWithIes_33 : decode b_X_endsWithIes 33 = .ok (.baload, 1) := by decide +kernel
theorem d_X_endsWithIes_34 : decode b_X_endsWithIes 34 = .ok (.bipush 115, 2) := by decide +kernel
theorem d_X_endsWithIes_36 : decode b_X_endsWithIes 36 = .ok (.if_icmp .ne 7, 3) := by decide +kernel
theorem d_X_endsWithIes_39 : decode b_X_endsWithIes 39 = .ok (.iconst 1, 1) := by decide +kernel
theorem d_X_endsWithIes_40 : decode b_X_endsWithIes 40 = .ok (.goto 4, 3) := by decide +kernel
theorem d_X_endsWithIes_43 : decode b_X_endsWithIes 43 = .ok (.iconst 0, 1) := by decide +kernel
theorem d_X_endsWithIes_44 : decode b_X_endsWithIes 44 = .ok (.ireturn, 1) := by decide +kernel
theorem d_X_endsWithLooseS_0 : decode b_X_endsWithLooseS 0 = .ok (.aload_n 0, 1) := by decide +kernel
theorem d_X_endsWithLooseS_1 : decode b_X_endsWithLooseS 1 = .ok (.getfield 9, 3) := by decide +kernel
theorem d_X_endsWithLooseS_4 : decode b_X_endsWithLooseS 4 = .ok (.iload_n 1, 1) := by decide +kernel
theorem d_X_endsWithLooseS_5 : decode b_X_endsWithLooseS 5 = .ok (.iconst 1, 1) := by decide +kernel
theorem d_X_endsWithLooseS_6 : decode b_X_endsWithLooseS 6 = .ok (.isub, 1) := by decide +kernel
theorem d_X_endsWithLooseS_7 : decode b_X_endsWithLooseS 7 = .ok (.baload, 1) := by decide +kernel
theorem d_X_endsWithLooseS_8 : decode b_X_endsWithLooseS 8 = .ok (.bipush 115, 2) := by decide +kernel
theorem d_X_endsWithLooseS_10 : decode b_X_endsWithLooseS 10 = .ok (.if_icmp .ne 33, 3) := by decide +kernel
theorem d_X_endsWithLooseS_13 : decode b_X_endsWithLooseS 13 = .ok (.aload_n 0, 1) := by decide +kernel
theorem d_X_endsWithLooseS_14 : decode b_X_endsWithLooseS 14 = .ok (.getfield 9, 3) := by decide +kernel
theorem d_X_endsWithLooseS_17 : decode b_X_endsWithLooseS 17 = .ok (.iload_n 1, 1) := by decide +kernel
theorem d_X_endsWithLooseS_18 : decode b_X_endsWithLooseS 18 = .ok (.iconst 2, 1) := by decide +kernel
theorem d_X_endsWithLooseS_19 : decode b_X_endsWithLooseS 19 = .ok (.isub, 1) := by decide +kernel
theorem d_X_endsWithLooseS_20 : decode b_X_endsWithLooseS 20 = .ok (.baload, 1) := by decide +kernel
theorem d_X_endsWithLooseS_21 : decode b_X_endsWithLooseS 21 = .ok (.bipush 115, 2) := by decide +kernel
theorem d_X_endsWithLooseS_23 : decode b_X_endsWithLooseS 23 = .ok (.if_icmp .eq 20, 3) := by decide +kernel
theorem d_X_endsWithLooseS_26 : decode b_X_endsWithLooseS 26 = .ok (.aload_n 0, 1) := by decide +kernel
theorem d_X_endsWithLooseS_27 : decode b_X_endsWithLooseS 27 = .ok (.getfield 9, 3) := by decide +kernel
theorem d_X_endsWithLooseS_30 : decode b_X_endsWithLooseS 30 = .ok (.iload_n 1, 1) := by decide +kernel
theorem d_X_endsWithLooseS_31 : decode b_X_endsWithLooseS 31 = .ok (.iconst 2, 1) := by decide +kernel
theorem d_X_endsWithLooseS_32 : decode b_X_endsWithLooseS 32 = .ok (.isub, 1) := by decide +kernel
theorem d_X_endsWithLooseS_33 : decode b_X_endsWithLooseS 33 = .ok (.baload, 1) := by decide +kernel
theorem d_X_endsWithLooseS_34 : decode b_X_endsWithLooseS 34 = .ok (.bipush 117, 2) := by decide +kernel
theorem d_X_endsWithLooseS_36 : decode b_X_endsWithLooseS 36 = .ok (.if_icmp .eq 7, 3) := by decide +kernel
theorem d_X_endsWithLooseS_39 : decode b_X_endsWithLooseS 39 = .ok (.iconst 1, 1) := by decide +kernel
theorem d_X_endsWithLooseS_40 : decode b_X_endsWithLooseS 40 = .ok (.goto 4, 3) := by decide +kernel
theorem d_X_endsWithLooseS_43 : decode b_X_endsWithLooseS 43 = .ok (.iconst 0, 1) := by decide +kernel
theorem d_X_endsWithLooseS_44 : decode b_X_endsWithLooseS 44 = .ok (.ireturn, 1) := by decide +kernel
theorem d_X_writeSigns_0 : decode b_X_writeSigns 0 = .ok (.iload_n 3, 1) := by decide +kernel
theorem d_X_writeSigns_1 : decode b_X_writeSigns 1 = .ok (.iload_n 2, 1) := by decide +kernel
theorem d_X_writeSigns_2 : decode b_X_writeSigns 2 = .ok (.isub, 1) := by decide +kernel
theorem d_X_writeSigns_3 : decode b_X_writeSigns 3 = .ok (.bipush 24, 2) := by decide +kernel
theorem d_X_writeSigns_5 : decode b_X_writeSigns 5 = .ok (.invokestatic 84, 3) := by decide +kernel
theorem d_X_writeSigns_8 : decode b_X_writeSigns 8 = .ok (.istore 4, 2) := by decide +kernel
theorem d_X_writeSigns_10 : decode b_X_writeSigns 10 = .ok (.aload_n 0, 1) := by decide +kernel
theorem d_X_writeSigns_11 : decode b_X_writeSigns 11 = .ok (.getfield 9, 3) := by decide +kernel
theorem d_X_writeSigns_14 : decode b_X_writeSigns 14 = .ok (.iload_n 2, 1) := by decide +kernel
theorem d_X_writeSigns_15 : decode b_X_writeSigns 15 = .ok (.aload_n 0, 1) := by decide +kernel
theorem d_X_writeSigns_16 : decode b_X_writeSigns 16 = .ok (.getfield 17, 3) := by decide +kernel
theorem d_X_writeSigns_19 : decode b_X_writeSigns 19 = .ok (.iload_n 1, 1) := by decide +kernel
theorem d_X_writeSigns_20 : decode b_X_writeSigns 20 = .ok (.bipush 24, 2) := by decide +kernel
theorem d_X_writeSigns_22 : decode b_X_writeSigns 22 = .ok (.imul, 1) := by decide +kernel
theorem d_X_writeSigns_23 : decode b_X_writeSigns 23 = .ok (.iload 4, 2) := by decide +kernel
theorem d_X_writeSigns_25 : decode b_X_writeSigns 25 = .ok (.invokestatic 89, 3) := by decide +kernel
theorem d_X_writeSigns_28 : decode b_X_writeSigns 28 = .ok (.aload_n 0, 1) := by decide +kernel
theorem d_X_writeSigns_29 : decode b_X_writeSigns 29 = .ok (.getfield 20, 3) := by decide +kernel
theorem d_X_writeSigns_32 : decode b_X_writeSigns 32 = .ok (.iload_n 1, 1) := by decide +kernel
theorem d_X_writeSigns_33 : decode b_X_writeSigns 33 = .ok (.iload 4, 2) := by decide +kernel
theorem d_X_writeSigns_35 : decode b_X_writeSigns 35 = .ok (.iastore, 1) := by decide +kernel
theorem d_X_writeSigns_36 : decode b_X_writeSigns 36 = .ok (.return_, 1) := by decide +kernel
theorem d_X_hasTerm_0 : decode b_X_hasTerm 0 = .ok (.iload_n 1, 1) := by decide +kernel
theorem d_X_hasTerm_1 : decode b_X_hasTerm 1 = .ok (.ifCond .lt 15, 3) := by decide +kernel
theorem d_X_hasTerm_4 : decode b_X_hasTerm 4 = .ok (.iload_n 1, 1) := by decide +kernel
theorem d_X_hasTerm_5 : decode b_X_hasTerm 5 = .ok (.aload_n 0, 1) := by decide +kernel
theorem d_X_hasTerm_6 : decode b_X_hasTerm 6 = .ok (.getfield 24, 3) := by decide +kernel
theorem d_X_hasTerm_9 : decode b_X_hasTerm 9 = .ok (.if_icmp .ge 7, 3) := by decide +kernel
theorem d_X_hasTerm_12 : decode b_X_hasTerm 12 = .ok (.iconst 1, 1) := by decide +kernel
theorem d_X_hasTerm_13 : decode b_X_hasTerm 13 = .ok (.goto 4, 3) := by decide +kernel
theorem d_X_hasTerm_16 : decode b_X_hasTerm 16 = .ok (.iconst 0, 1) := by decide +kernel
theorem d_X_hasTerm_17 : decode b_X_hasTerm 17 = .ok (.ireturn, 1) := by decide +kernel
theorem d_X_signAt_0 : decode b_X_signAt 0 = .ok (.aload_n 0, 1) := by decide +kernel
theorem d_X_signAt_1 : decode b_X_signAt 1 = .ok (.getfield 17, 3) := by decide +kernel
theorem d_X_signAt_4 : decode b_X_signAt 4 = .ok (.iload_n 1, 1) := by decide +kernel
theorem d_X_signAt_5 : decode b_X_signAt 5 = .ok (.bipush 24, 2) := by decide +kernel
theorem d_X_signAt_7 : decode b_X_signAt 7 = .ok (.imul, 1) := by decide +kernel
theorem d_X_signAt_8 : decode b_X_signAt 8 = .ok (.iload_n 2, 1) := by decide +kernel
theorem d_X_signAt_9 : decode b_X_signAt 9 = .ok (.iadd, 1) := by decide +kernel
theorem d_X_signAt_10 : decode b_X_signAt 10 = .ok (.baload, 1) := by decide +kernel
theorem d_X_signAt_11 : decode b_X_signAt 11 = .ok (.ireturn, 1) := by decide +kernel
theorem d_X_firstSame_0 : decode b_X_firstSame 0 = .ok (.iconst 0, 1) := by decide +kernel
theorem d_X_firstSame_1 : decode b_X_firstSame 1 = .ok (.istore_n 2, 1) := by decide +kernel
theorem d_X_firstSame_2 : decode b_X_firstSame 2 = .ok (.iload_n 2, 1) := by decide +kernel
theorem d_X_firstSame_3 : decode b_X_firstSame 3 = .ok (.iload_n 1, 1) := by decide +kernel
theorem d_X_firstSame_4 : decode b_X_firstSame 4 = .ok (.if_icmp .ge 20, 3) := by decide +kernel
theorem d_X_firstSame_7 : decode b_X_firstSame 7 = .ok (.aload_n 0, 1) := by decide +kernel
theorem d_X_firstSame_8 : decode b_X_firstSame 8 = .ok (.iload_n 2, 1) := by decide +kernel
theorem d_X_firstSame_9 : decode b_X_firstSame 9 = .ok (.iload_n 1, 1) := by decide +kernel
theorem d_X_firstSame_10 : decode b_X_firstSame 10 = .ok (.invokevirtual 54, 3) := by decide +kernel
theorem d_X_firstSame_13 : decode b_X_firstSame 13 = .ok (.ifCond .ne 5, 3) := by decide +kernel
theorem d_X_firstSame_16 : decode b_X_firstSame 16 = .ok (.iload_n 2, 1) := by decide +kernel
theorem d_X_firstSame_17 : decode b_X_firstSame 17 = .ok (.ireturn, 1) := by decide +kernel
theorem d_X_firstSame_18 : decode b_X_firstSame 18 = .ok (.iinc 2 1, 3) := by decide +kernel
theorem d_X_firstSame_21 : decode b_X_firstSame 21 = .ok (.goto (-19), 3) := by decide +kernel
theorem d_X_firstSame_24 : decode b_X_firstSame 24 = .ok (.iload_n 1, 1) := by decide +kernel
theorem d_X_firstSame_25 : decode b_X_firstSame 25 = .ok (.ireturn, 1) := by decide +kernel
theorem d_X_order_0 : decode b_X_order 0 = .ok (.aload_n 0, 1) := by decide +kernel
theorem d_X_order_1 : decode b_X_order 1 = .ok (.getfield 20, 3) := by decide +kernel
theorem d_X_order_4 : decode b_X_order 4 = .ok (.iload_n 1, 1) := by decide +kernel
theorem d_X_order_5 : decode b_X_order 5 = .ok (.iaload, 1) := by decide +kernel
theorem d_X_order_6 : decode b_X_order 6 = .ok (.aload_n 0, 1) := by decide +kernel
theorem d_X_order_7 : decode b_X_order 7 = .ok (.getfield 20, 3) := by decide +kernel
theorem d_X_order_10 : decode b_X_order 10 = .ok (.iload_n 2, 1) := by decide +kernel
theorem d_X_order_11 : decode b_X_order 11 = .ok (.iaload, 1) := by decide +kernel
theorem d_X_order_12 : decode b_X_order 12 = .ok (.invokestatic 84, 3) := by decide +kernel
theorem d_X_order_15 : decode b_X_order 15 = .ok (.istore_n 3, 1) := by decide +kernel
theorem d_X_order_16 : decode b_X_order 16 = .ok (.iconst 0, 1) := by decide +kernel
theorem d_X_order_17 : decode b_X_order 17 = .ok (.istore 4, 2) := by decide +kernel
theorem d_X_order_19 : decode b_X_order 19 = .ok (.iload 4, 2) := by decide +kernel
theorem d_X_order_21 : decode b_X_order 21 = .ok (.iload_n 3, 1) := by decide +kernel
theorem d_X_order_22 : decode b_X_order 22 = .ok (.if_icmp .ge 49, 3) := by decide +kernel
theorem d_X_order_25 : decode b_X_order 25 = .ok (.aload_n 0, 1) := by decide +kernel
theorem d_X_order_26 : decode b_X_order 26 = .ok (.iload_n 1, 1) := by decide +kernel
theorem d_X_order_27 : decode b_X_order 27 = .ok (.iload 4, 2) := by decide +kernel
theorem d_X_order_29 : decode b_X_order 29 = .ok (.invokevirtual 46, 3) := by decide +kernel
theorem d_X_order_32 : decode b_X_order 32 = .ok (.aload_n 0, 1) := by decide +kernel
theorem d_X_order_33 : decode b_X_order 33 = .ok (.iload_n 2, 1) := by decide +kernel
theorem d_X_order_34 : decode b_X_order 34 = .ok (.iload 4, 2) := by decide +kernel
theorem d_X_order_36 : decode b_X_order 36 = .ok (.invokevirtual 46, 3) := by decide +kernel
theorem d_X_order_39 : decode b_X_order 39 = .ok (.if_icmp .eq 26, 3) := by decide +kernel
theorem d_X_order_42 : decode b_X_order 42 = .ok (.aload_n 0, 1) := by decide +kernel
theorem d_X_order_43 : decode b_X_order 43 = .ok (.iload_n 1, 1) := by decide +kernel
theorem d_X_order_44 : decode b_X_order 44 = .ok (.iload 4, 2) := by decide +kernel
theorem d_X_order_46 : decode b_X_order 46 = .ok (.invokevirtual 46, 3) := by decide +kernel
theorem d_X_order_49 : decode b_X_order 49 = .ok (.aload_n 0, 1) := by decide +kernel
theorem d_X_order_50 : decode b_X_order 50 = .ok (.iload_n 2, 1) := by decide +kernel
theorem d_X_order_51 : decode b_X_order 51 = .ok (.iload 4, 2) := by decide +kernel
theorem d_X_order_53 : decode b_X_order 53 = .ok (.invokevirtual 46, 3) := by decide +kernel
theorem d_X_order_56 : decode b_X_order 56 = .ok (.if_icmp .ge 7, 3) := by decide +kernel
theorem d_X_order_59 : decode b_X_order 59 = .ok (.iconst (-1), 1) := by decide +kernel
theorem d_X_order_60 : decode b_X_order 60 = .ok (.goto 4, 3) := by decide +kernel
theorem d_X_order_63 : decode b_X_order 63 = .ok (.iconst 1, 1) := by decide +kernel
theorem d_X_order_64 : decode b_X_order 64 = .ok (.ireturn, 1) := by decide +kernel
theorem d_X_order_65 : decode b_X_order 65 = .ok (.iinc 4 1, 3) := by decide +kernel
theorem d_X_order_68 : decode b_X_order 68 = .ok (.goto (-49), 3) := by decide +kernel
theorem d_X_order_71 : decode b_X_order 71 = .ok (.aload_n 0, 1) := by decide +kernel
theorem d_X_order_72 : decode b_X_order 72 = .ok (.getfield 20, 3) := by decide +kernel
theorem d_X_order_75 : decode b_X_order 75 = .ok (.iload_n 1, 1) := by decide +kernel
theorem d_X_order_76 : decode b_X_order 76 = .ok (.iaload, 1) := by decide +kernel
theorem d_X_order_77 : decode b_X_order 77 = .ok (.aload_n 0, 1) := by decide +kernel
theorem d_X_order_78 : decode b_X_order 78 = .ok (.getfield 20, 3) := by decide +kernel
theorem d_X_order_81 : decode b_X_order 81 = .ok (.iload_n 2, 1) := by decide +kernel
theorem d_X_order_82 : decode b_X_order 82 = .ok (.iaload, 1) := by decide +kernel
theorem d_X_order_83 : decode b_X_order 83 = .ok (.invokestatic 95, 3) := by decide +kernel
theorem d_X_order_86 : decode b_X_order 86 = .ok (.ireturn, 1) := by decide +kernel
theorem d_X_distance_0 : decode b_X_distance 0 = .ok (.iconst 0, 1) := by decide +kernel
theorem d_X_distance_1 : decode b_X_distance 1 = .ok (.istore_n 3, 1) := by decide +kernel
theorem d_X_distance_2 : decode b_X_distance 2 = .ok (.iload_n 3, 1) := by decide +kernel
theorem d_X_distance_3 : decode b_X_distance 3 = .ok (.aload_n 0, 1) := by decide +kernel
theorem d_X_distance_4 : decode b_X_distance 4 = .ok (.getfield 20, 3) := by decide +kernel
theorem d_X_distance_7 : decode b_X_distance 7 = .ok (.iload_n 2, 1) := by decide +kernel
theorem d_X_distance_8 : decode b_X_distance 8 = .ok (.iaload, 1) := by decide +kernel
theorem d_X_distance_9 : decode b_X_distance 9 = .ok (.if_icmp .gt 16, 3) := by decide +kernel
theorem d_X_distance_12 : decode b_X_distance 12 = .ok (.aload_n 0, 1) := by decide +kernel
theorem d_X_distance_13 : decode b_X_distance 13 = .ok (.getfield 27, 3) := by decide +kernel
theorem d_X_distance_16 : decode b_X_distance 16 = .ok (.iload_n 3, 1) := by decide +kernel
theorem d_X_distance_17 : decode b_X_distance 17 = .ok (.iload_n 3, 1) := by decide +kernel
theorem d_X_distance_18 : decode b_X_distance 18 = .ok (.iastore, 1) := by decide +kernel
theorem d_X_distance_19 : decode b_X_distance 19 = .ok (.iinc 3 1, 3) := by decide +kernel
theorem d_X_distance_22 : decode b_X_distance 22 = .ok (.goto (-20), 3) := by decide +kernel
theorem d_X_distance_25 : decode b_X_distance 25 = .ok (.iconst 1, 1) := by decide +kernel
theorem d_X_distance_26 : decode b_X_distance 26 = .ok (.istore_n 3, 1) := by decide +kernel
theorem d_X_distance_27 : decode b_X_distance 27 = .ok (.iload_n 3, 1) := by decide +kernel
theorem d_X_distance_28 : decode b_X_distance 28 = .ok (.aload_n 0, 1) := by decide +kernel
theorem d_X_distance_29 : decode b_X_distance 29 = .ok (.getfield 20, 3) := by decide +kernel
theorem d_X_distance_32 : decode b_X_distance 32 = .ok (.iload_n 1, 1) := by decide +kernel
theorem d_X_distance_33 : decode b_X_distance 33 = .ok (.iaload, 1) := by decide +kernel
theorem d_X_distance_34 : decode b_X_distance 34 = .ok (.if_icmp .gt 116, 3) := by decide +kernel
theorem d_X_distance_37 : decode b_X_distance 37 = .ok (.aload_n 0, 1) := by decide +kernel
theorem d_X_distance_38 : decode b_X_distance 38 = .ok (.getfield 27, 3) := by decide +kernel
theorem d_X_distance_41 : decode b_X_distance 41 = .ok (.iconst 0, 1) := by decide +kernel
theorem d_X_distance_42 : decode b_X_distance 42 = .ok (.iaload, 1) := by decide +kernel
theorem d_X_distance_43 : decode b_X_distance 43 = .ok (.istore 4, 2) := by decide +kernel
theorem d_X_distance_45 : decode b_X_distance 45 = .ok (.aload_n 0, 1) := by decide +kernel
theorem d_X_distance_46 : decode b_X_distance 46 = .ok (.getfield 27, 3) := by decide +kernel
theorem d_X_distance_49 : decode b_X_distance 49 = .ok (.iconst 0, 1) := by decide +kernel
theorem d_X_distance_50 : decode b_X_distance 50 = .ok (.iload_n 3, 1) := by decide +kernel
theorem d_X_distance_51 : decode b_X_distance 51 = .ok (.iastore, 1) := by decide +kernel
theorem d_X_distance_52 : decode b_X_distance 52 = .ok (.iconst 1, 1) := by decide +kernel
theorem d_X_distance_53 : decode b_X_distance 53 = .ok (.istore 5, 2) := by decide +kernel
theorem d_X_distance_55 : decode b_X_distance 55 = .ok (.iload 5, 2) := by decide +kernel
theorem d_X_distance_57 : decode b_X_distance 57 = .ok (.aload_n 0, 1) := by decide +kernel
theorem d_X_distance_58 : decode b_X_distance 58 = .ok (.getfield 20, 3) := by decide +kernel
theorem d_X_distance_61 : decode b_X_distance 61 = .ok (.iload_n 2, 1) := by decide +kernel
theorem d_X_distance_62 : decode b_X_distance 62 = .ok (.iaload, 1) := by decide +kernel
theorem d_X_distance_63 : decode b_X_distance 63 = .ok (.if_icmp .gt 81, 3) := by decide +kernel
theorem d_X_distance_66 : decode b_X_distance 66 = .ok (.aload_n 0, 1) := by decide +kernel
theorem d_X_distance_67 : decode b_X_distance 67 = .ok (.iload_n 1, 1) := by decide +kernel
theorem d_X_distance_68 : decode b_X_distance 68 = .ok (.iload_n 3, 1) := by decide +kernel
theorem d_X_distance_69 : decode b_X_distance 69 = .ok (.iconst 1, 1) := by decide +kernel
theorem d_X_distance_70 : decode b_X_distance 70 = .ok (.isub, 1) := by decide +kernel
theorem d_X_distance_71 : decode b_X_distance 71 = .ok (.invokevirtual 46, 3) := by decide +kernel
theorem d_X_distance_74 : decode b_X_distance 74 = .ok (.aload_n 0, 1) := by decide +kernel
theorem d_X_distance_75 : decode b_X_distance 75 = .ok (.iload_n 2, 1) := by decide +kernel
theorem d_X_distance_76 : decode b_X_distance 76 = .ok (.iload 5, 2) := by decide +kernel
theorem d_X_distance_78 : decode b_X_distance 78 = .ok (.iconst 1, 1) := by decide +kernel
theorem d_X_distance_79 : decode b_X_distance 79 = .ok (.isub, 1) := by decide +kernel
theorem d_X_distance_80 : decode b_X_distance 80 = .ok (.invokevirtual 46, 3) := by decide +kernel
theorem d_X_distance_83 : decode b_X_distance 83 = .ok (.if_icmp .ne 8, 3) := by decide +kernel
theorem d_X_distance_86 : decode b_X_distance 86 = .ok (.iload 4, 2) := by decide +kernel
theorem d_X_distance_88 : decode b_X_distance 88 = .ok (.goto 7, 3) := by decide +kernel
theorem d_X_distance_91 : decode b_X_distance 91 = .ok (.iload 4, 2) := by decide +kernel
theorem d_X_distance_93 : decode b_X_distance 93 = .ok (.iconst 1, 1) := by decide +kernel
theorem d_X_distance_94 : decode b_X_distance 94 = .ok (.iadd, 1) := by decide +kernel
theorem d_X_distance_95 : decode b_X_distance 95 = .ok (.istore 6, 2) := by decide +kernel
theorem d_X_distance_97 : decode b_X_distance 97 = .ok (.aload_n 0, 1) := by decide +kernel
theorem d_X_distance_98 : decode b_X_distance 98 = .ok (.getfield 27, 3) := by decide +kernel
theorem d_X_distance_101 : decode b_X_distance 101 = .ok (.iload 5, 2) := by decide +kernel
theorem d_X_distance_103 : decode b_X_distance 103 = .ok (.iaload, 1) := by decide +kernel
theorem d_X_distance_104 : decode b_X_distance 104 = .ok (.istore 4, 2) := by decide +kernel
theorem d_X_distance_106 : decode b_X_distance 106 = .ok (.iload 4, 2) := by decide +kernel
theorem d_X_distance_108 : decode b_X_distance 108 = .ok (.aload_n 0, 1) := by decide +kernel
theorem d_X_distance_109 : decode b_X_distance 109 = .ok (.getfield 27, 3) := by decide +kernel
theorem d_X_distance_112 : decode b_X_distance 112 = .ok (.iload 5, 2) := by decide +kernel
theorem d_X_distance_114 : decode b_X_distance 114 = .ok (.iconst 1, 1) := by decide +kernel
theorem d_X_distance_115 : decode b_X_distance 115 = .ok (.isub, 1) := by decide +kernel
theorem d_X_distance_116 : decode b_X_distance 116 = .ok (.iaload, 1) := by decide +kernel
theorem d_X_distance_117 : decode b_X_distance 117 = .ok (.invokestatic 84, 3) := by decide +kernel
theorem d_X_distance_120 : decode b_X_distance 120 = .ok (.iconst 1, 1) := by decide +kernel
theorem d_X_distance_121 : decode b_X_distance 121 = .ok (.iadd, 1) := by decide +kernel
theorem d_X_distance_122 : decode b_X_distance 122 = .ok (.istore 7, 2) := by decide +kernel
theorem d_X_distance_124 : decode b_X_distance 124 = .ok (.aload_n 0, 1) := by decide +kernel
theorem d_X_distance_125 : decode b_X_distance 125 = .ok (.getfield 27, 3) := by decide +kernel
theorem d_X_distance_128 : decode b_X_distance 128 = .ok (.iload 5, 2) := by decide +kernel
theorem d_X_distance_130 : decode b_X_distance 130 = .ok (.iload 6, 2) := by decide +kernel
theorem d_X_distance_132 : decode b_X_distance 132 = .ok (.iload 7, 2) := by decide +kernel
theorem d_X_distance_134 : decode b_X_distance 134 = .ok (.invokestatic 84, 3) := by decide +kernel
theorem d_X_distance_137 : decode b_X_distance 137 = .ok (.iastore, 1) := by decide +kernel
theorem d_X_distance_138 : decode b_X_distance 138 = .ok (.iinc 5 1, 3) := by decide +kernel
theorem d_X_distance_141 : decode b_X_distance 141 = .ok (.goto (-86), 3) := by decide +kernel
theorem d_X_distance_144 : decode b_X_distance 144 = .ok (.iinc 3 1, 3) := by decide +kernel
theorem d_X_distance_147 : decode b_X_distance 147 = .ok (.goto (-120), 3) := by decide +kernel
theorem d_X_distance_150 : decode b_X_distance 150 = .ok (.aload_n 0, 1) := by decide +kernel
theorem d_X_distance_151 : decode b_X_distance 151 = .ok (.getfield 27, 3) := by decide +kernel
theorem d_X_distance_154 : decode b_X_distance 154 = .ok (.aload_n 0, 1) := by decide +kernel
theorem d_X_distance_155 : decode b_X_distance 155 = .ok (.getfield 20, 3) := by decide +kernel
theorem d_X_distance_158 : decode b_X_distance 158 = .ok (.iload_n 2, 1) := by decide +kernel
theorem d_X_distance_159 : decode b_X_distance 159 = .ok (.iaload, 1) := by decide +kernel
theorem d_X_distance_160 : decode b_X_distance 160 = .ok (.iaload, 1) := by decide +kernel
theorem d_X_distance_161 : decode b_X_distance 161 = .ok (.ireturn, 1) := by decide +kernel
theorem d_Integer_compare_0 : decode b_Integer_compare 0 = .ok (.iload_n 0, 1) := by decide +kernel
theorem d_Integer_compare_1 : decode b_Integer_compare 1 = .ok (.iload_n 1, 1) := by decide +kernel
theorem d_Integer_compare_2 : decode b_Integer_compare 2 = .ok (.if_icmp .ge 7, 3) := by decide +kernel
theorem d_Integer_compare_5 : decode b_Integer_compare 5 = .ok (.iconst (-1), 1) := by decide +kernel
theorem d_Integer_compare_6 : decode b_Integer_compare 6 = .ok (.goto 13, 3) := by decide +kernel
theorem d_Integer_compare_9 : decode b_Integer_compare 9 = .ok (.iload_n 0, 1) := by decide +kernel
theorem d_Integer_compare_10 : decode b_Integer_compare 10 = .ok (.iload_n 1, 1) := by decide +kernel
theorem d_Integer_compare_11 : decode b_Integer_compare 11 = .ok (.if_icmp .ne 7, 3) := by decide +kernel
theorem d_Integer_compare_14 : decode b_Integer_compare 14 = .ok (.iconst 0, 1) := by decide +kernel
theorem d_Integer_compare_15 : decode b_Integer_compare 15 = .ok (.goto 4, 3) := by decide +kernel
theorem d_Integer_compare_18 : decode b_Integer_compare 18 = .ok (.iconst 1, 1) := by decide +kernel
theorem d_Integer_compare_19 : decode b_Integer_compare 19 = .ok (.ireturn, 1) := by decide +kernel
end
section
theorem d_M_init_0 : decode b_M_init 0 = .ok (.aload_n 0, 1) := by decide +kernel
theorem d_M_init_1 : decode b_M_init 1 = .ok (.invokespecial 1, 3) := by decide +kernel
theorem d_M_init_4 : decode b_M_init 4 = .ok (.aload_n 0, 1) := by decide +kernel
theorem d_M_init_5 : decode b_M_init 5 = .ok (.sipush 300, 3) := by decide +kernel
theorem d_M_init_8 : decode b_M_init 8 = .ok (.newarray .byte, 2) := by decide +kernel
theorem d_M_init_10 : decode b_M_init 10 = .ok (.putfield 9, 3) := by decide +kernel
theorem d_M_init_13 : decode b_M_init 13 = .ok (.aload_n 0, 1) := by decide +kernel
theorem d_M_init_14 : decode b_M_init 14 = .ok (.sipush 3624, 3) := by decide +kernel
theorem d_M_init_17 : decode b_M_init 17 = .ok (.newarray .byte, 2) := by decide +kernel
theorem d_M_init_19 : decode b_M_init 19 = .ok (.putfield 13, 3) := by decide +kernel
theorem d_M_init_22 : decode b_M_init 22 = .ok (.aload_n 0, 1) := by decide +kernel
theorem d_M_init_23 : decode b_M_init 23 = .ok (.sipush 151, 3) := by decide +kernel
theorem d_M_init_26 : decode b_M_init 26 = .ok (.newarray .int, 2) := by decide +kernel
theorem d_M_init_28 : decode b_M_init 28 = .ok (.putfield 16, 3) := by decide +kernel
theorem d_M_init_31 : decode b_M_init 31 = .ok (.aload_n 0, 1) := by decide +kernel
theorem d_M_init_32 : decode b_M_init 32 = .ok (.sipush 300, 3) := by decide +kernel
theorem d_M_init_35 : decode b_M_init 35 = .ok (.newarray .byte, 2) := by decide +kernel
theorem d_M_init_37 : decode b_M_init 37 = .ok (.putfield 20, 3) := by decide +kernel
theorem d_M_init_40 : decode b_M_init 40 = .ok (.aload_n 0, 1) := by decide +kernel
theorem d_M_init_41 : decode b_M_init 41 = .ok (.sipush 625, 3) := by decide +kernel
theorem d_M_init_44 : decode b_M_init 44 = .ok (.newarray .int, 2) := by decide +kernel
theorem d_M_init_46 : decode b_M_init 46 = .ok (.putfield 23, 3) := by decide +kernel
theorem d_M_init_49 : decode b_M_init 49 = .ok (.return_, 1) := by decide +kernel
theorem d_M_put_0 : decode b_M_put 0 = .ok (.bipush 24, 2) := by decide +kernel
theorem d_M_put_2 : decode b_M_put 2 = .ok (.istore_n 2, 1) := by decide +kernel
theorem d_M_put_3 : decode b_M_put 3 = .ok (.iload_n 2, 1) := by decide +kernel
theorem d_M_put_4 : decode b_M_put 4 = .ok (.ifCond .lt 32, 3) := by decide +kernel
theorem d_M_put_7 : decode b_M_put 7 = .ok (.aload_n 0, 1) := by decide +kernel
theorem d_M_put_8 : decode b_M_put 8 = .ok (.getfield 9, 3) := by decide +kernel
theorem d_M_put_11 : decode b_M_put 11 = .ok (.aload_n 0, 1) := by decide +kernel
theorem d_M_put_12 : decode b_M_put 12 = .ok (.getfield 26, 3) := by decide +kernel
theorem d_M_put_15 : decode b_M_put 15 = .ok (.iload_n 1, 1) := by decide +kernel
theorem d_M_put_16 : decode b_M_put 16 = .ok (.iload_n 2, 1) := by decide +kernel
theorem d_M_put_17 : decode b_M_put 17 = .ok (.ishr, 1) := by decide +kernel
theorem d_M_put_18 : decode b_M_put 18 = .ok (.i2b, 1) := by decide +kernel
theorem d_M_put_19 : decode b_M_put 19 = .ok (.bastore, 1) := by decide +kernel
theorem d_M_put_20 : decode b_M_put 20 = .ok (.aload_n 0, 1) := by decide +kernel
theorem d_M_put_21 : decode b_M_put 21 = .ok (.dup, 1) := by decide +kernel
theorem d_M_put_22 : decode b_M_put 22 = .ok (.getfield 26, 3) := by decide +kernel
theorem d_M_put_25 : decode b_M_put 25 = .ok (.iconst 1, 1) := by decide +kernel
theorem d_M_put_26 : decode b_M_put 26 = .ok (.iadd, 1) := by decide +kernel
theorem d_M_put_27 : decode b_M_put 27 = .ok (.putfield 26, 3) := by decide +kernel
theorem d_M_put_30 : decode b_M_put 30 = .ok (.iinc 2 (-8), 3) := by decide +kernel
theorem d_M_put_33 : decode b_M_put 33 = .ok (.goto (-30), 3) := by decide +kernel
theorem d_M_put_36 : decode b_M_put 36 = .ok (.return_, 1) := by decide +kernel
theorem d_M_feed_0 : decode b_M_feed 0 = .ok (.aload_n 0, 1) := by decide +kernel
theorem d_M_feed_1 : decode b_M_feed 1 = .ok (.getfield 26, 3) := by decide +kernel
theorem d_M_feed_4 : decode b_M_feed 4 = .ok (.bipush 20, 2) := by decide +kernel
theorem d_M_feed_6 : decode b_M_feed 6 = .ok (.iadd, 1) := by decide +kernel
theorem d_M_feed_7 : decode b_M_feed 7 = .ok (.sipush 300, 3) := by decide +kernel
theorem d_M_feed_10 : decode b_M_feed 10 = .ok (.if_icmp .le 6, 3) := by decide +kernel
theorem d_M_feed_13 : decode b_M_feed 13 = .ok (.bipush (-3), 2) := by decide +kernel
theorem d_M_feed_15 : decode b_M_feed 15 = .ok (.ireturn, 1) := by decide +kernel
theorem d_M_feed_16 : decode b_M_feed 16 = .ok (.aload_n 0, 1) := by decide +kernel
theorem d_M_feed_17 : decode b_M_feed 17 = .ok (.iload_n 1, 1) := by decide +kernel
theorem d_M_feed_18 : decode b_M_feed 18 = .ok (.invokevirtual 30, 3) := by decide +kernel
theorem d_M_feed_21 : decode b_M_feed 21 = .ok (.aload_n 0, 1) := by decide +kernel
theorem d_M_feed_22 : decode b_M_feed 22 = .ok (.iload_n 2, 1) := by decide +kernel
theorem d_M_feed_23 : decode b_M_feed 23 = .ok (.invokevirtual 30, 3) := by decide +kernel
theorem d_M_feed_26 : decode b_M_feed 26 = .ok (.aload_n 0, 1) := by decide +kernel
theorem d_M_feed_27 : decode b_M_feed 27 = .ok (.iload_n 3, 1) := by decide +kernel
theorem d_M_feed_28 : decode b_M_feed 28 = .ok (.invokevirtual 30, 3) := by decide +kernel
theorem d_M_feed_31 : decode b_M_feed 31 = .ok (.aload_n 0, 1) := by decide +kernel
theorem d_M_feed_32 : decode b_M_feed 32 = .ok (.iload 4, 2) := by decide +kernel
theorem d_M_feed_34 : decode b_M_feed 34 = .ok (.invokevirtual 30, 3) := by decide +kernel
theorem d_M_feed_37 : decode b_M_feed 37 = .ok (.aload_n 0, 1) := by decide +kernel
theorem d_M_feed_38 : decode b_M_feed 38 = .ok (.iload 5, 2) := by decide +kernel
theorem d_M_feed_40 : decode b_M_feed 40 = .ok (.invokevirtual 30, 3) := by decide +kernel
theorem d_M_feed_43 : decode b_M_feed 43 = .ok (.aload_n 0, 1) := by decide +kernel
theorem d_M_feed_44 : decode b_M_feed 44 = .ok (.getfield 26, 3) := by decide +kernel
theorem d_M_feed_47 : decode b_M_feed 47 = .ok (.ireturn, 1) := by decide +kernel
theorem d_M_end_0 : decode b_M_end 0 = .ok (.iload_n 1, 1) := by decide +kernel
theorem d_M_end_1 : decode b_M_end 1 = .ok (.ifCond .lt 11, 3) := by decide +kernel
theorem d_M_end_4 : decode b_M_end 4 = .ok (.iload_n 1, 1) := by decide +kernel
theorem d_M_end_5 : decode b_M_end 5 = .ok (.aload_n 0, 1) := by decide +kernel
theorem d_M_end_6 : decode b_M_end 6 = .ok (.getfield 26, 3) := by decide +kernel
theorem d_M_end_9 : decode b_M_end 9 = .ok (.if_icmp .le 5, 3) := by decide +kernel
theorem d_M_end_12 : decode b_M_end 12 = .ok (.iconst (-1), 1) := by decide +kernel
theorem d_M_end_13 : decode b_M_end 13 = .ok (.ireturn, 1) := by decide +kernel
theorem d_M_end_14 : decode b_M_end 14 = .ok (.aload_n 0, 1) := by decide +kernel
theorem d_M_end_15 : decode b_M_end 15 = .ok (.iload_n 1, 1) := by decide +kernel
theorem d_M_end_16 : decode b_M_end 16 = .ok (.putfield 26, 3) := by decide +kernel
theorem d_M_end_19 : decode b_M_end 19 = .ok (.iload_n 1, 1) := by decide +kernel
theorem d_M_end_20 : decode b_M_end 20 = .ok (.ireturn, 1) := by decide +kernel
theorem d_M_letter_0 : decode b_M_letter 0 = .ok (.iload_n 0, 1) := by decide +kernel
theorem d_M_letter_1 : decode b_M_letter 1 = .ok (.bipush 48, 2) := by decide +kernel
theorem d_M_letter_3 : decode b_M_letter 3 = .ok (.if_icmp .lt 9, 3) := by decide +kernel
theorem d_M_letter_6 : decode b_M_letter 6 = .ok (.iload_n 0, 1) := by decide +kernel
theorem d_M_letter_7 : decode b_M_letter 7 = .ok (.bipush 57, 2) := by decide +kernel
theorem d_M_letter_9 : decode b_M_letter 9 = .ok (.if_icmp .le 27, 3) := by decide +kernel
theorem d_M_letter_12 : decode b_M_letter 12 = .ok (.iload_n 0, 1) := by decide +kernel
theorem d_M_letter_13 : decode b_M_letter 13 = .ok (.bipush 65, 2) := by decide +kernel
theorem d_M_letter_15 : decode b_M_letter 15 = .ok (.if_icmp .lt 9, 3) := by decide +kernel
theorem d_M_letter_18 : decode b_M_letter 18 = .ok (.iload_n 0, 1) := by decide +kernel
theorem d_M_letter_19 : decode b_M_letter 19 = .ok (.bipush 90, 2) := by decide +kernel
theorem d_M_letter_21 : decode b_M_letter 21 = .ok (.if_icmp .le 15, 3) := by decide +kernel
theorem d_M_letter_24 : decode b_M_letter 24 = .ok (.iload_n 0, 1) := by decide +kernel
theorem d_M_letter_25 : decode b_M_letter 25 = .ok (.bipush 97, 2) := by decide +kernel
theorem d_M_letter_27 : decode b_M_letter 27 = .ok (.if_icmp .lt 13, 3) := by decide +kernel
theorem d_M_letter_30 : decode b_M_letter 30 = .ok (.iload_n 0, 1) := by decide +kernel
theorem d_M_letter_31 : decode b_M_letter 31 = .ok (.bipush 122, 2) := by decide +kernel
theorem d_M_letter_33 : decode b_M_letter 33 = .ok (.if_icmp .gt 7, 3) := by decide +kernel
theorem d_M_letter_36 : decode b_M_letter 36 = .ok (.iconst 1, 1) := by decide +kernel
theorem d_M_letter_37 : decode b_M_letter 37 = .ok (.goto 4, 3) := by decide +kernel
theorem d_M_letter_40 : decode b_M_letter 40 = .ok (.iconst 0, 1) := by decide +kernel
theorem d_M_letter_41 : decode b_M_letter 41 = .ok (.ireturn, 1) := by decide +kernel
theorem d_M_run_0 : decode b_M_run 0 = .ok (.iload_n 1, 1) := by decide +kernel
theorem d_M_run_1 : decode b_M_run 1 = .ok (.istore_n 2, 1) := by decide +kernel
theorem d_M_run_2 : decode b_M_run 2 = .ok (.aload_n 0, 1) := by decide +kernel
theorem d_M_run_3 : decode b_M_run 3 = .ok (.iconst 0, 1) := by decide +kernel
theorem d_M_run_4 : decode b_M_run 4 = .ok (.putfield 34, 3) := by decide +kernel
theorem d_M_run_7 : decode b_M_run 7 = .ok (.iload_n 2, 1) := by decide +kernel
theorem d_M_run_8 : decode b_M_run 8 = .ok (.aload_n 0, 1) := by decide +kernel
theorem d_M_run_9 : decode b_M_run 9 = .ok (.getfield 26, 3) := by decide +kernel
theorem d_M_run_12 : decode b_M_run 12 = .ok (.if_icmp .ge 81, 3) := by decide +kernel
theorem d_M_run_15 : decode b_M_run 15 = .ok (.aload_n 0, 1) := by decide +kernel
theorem d_M_run_16 : decode b_M_run 16 = .ok (.getfield 9, 3) := by decide +kernel
theorem d_M_run_19 : decode b_M_run 19 = .ok (.iload_n 2, 1) := by decide +kernel
theorem d_M_run_20 : decode b_M_run 20 = .ok (.baload, 1) := by decide +kernel
theorem d_M_run_21 : decode b_M_run 21 = .ok (.invokestatic 37, 3) := by decide +kernel
theorem d_M_run_24 : decode b_M_run 24 = .ok (.ifCond .eq 69, 3) := by decide +kernel
theorem d_M_run_27 : decode b_M_run 27 = .ok (.aload_n 0, 1) := by decide +kernel
theorem d_M_run_28 : decode b_M_run 28 = .ok (.getfield 20, 3) := by decide +kernel
theorem d_M_run_31 : decode b_M_run 31 = .ok (.aload_n 0, 1) := by decide +kernel
theorem d_M_run_32 : decode b_M_run 32 = .ok (.getfield 34, 3) := by decide +kernel
theorem d_M_run_35 : decode b_M_run 35 = .ok (.aload_n 0, 1) := by decide +kernel
theorem d_M_run_36 : decode b_M_run 36 = .ok (.getfield 9, 3) := by decide +kernel
theorem d_M_run_39 : decode b_M_run 39 = .ok (.iload_n 2, 1) := by decide +kernel
theorem d_M_run_40 : decode b_M_run 40 = .ok (.baload, 1) := by decide +kernel
theorem d_M_run_41 : decode b_M_run 41 = .ok (.bipush 65, 2) := by decide +kernel
theorem d_M_run_43 : decode b_M_run 43 = .ok (.if_icmp .lt 26, 3) := by decide +kernel
theorem d_M_run_46 : decode b_M_run 46 = .ok (.aload_n 0, 1) := by decide +kernel
theorem d_M_run_47 : decode b_M_run 47 = .ok (.getfield 9, 3) := by decide +kernel
theorem d_M_run_50 : decode b_M_run 50 = .ok (.iload_n 2, 1) := by decide +kernel
theorem d_M_run_51 : decode b_M_run 51 = .ok (.baload, 1) := by decide +kernel
theorem d_M_run_52 : decode b_M_run 52 = .ok (.bipush 90, 2) := by decide +kernel
theorem d_M_run_54 : decode b_M_run 54 = .ok (.if_icmp .gt 15, 3) := by decide +kernel
theorem d_M_run_57 : decode b_M_run 57 = .ok (.aload_n 0, 1) := by decide +kernel
theorem d_M_run_58 : decode b_M_run 58 = .ok (.getfield 9, 3) := by decide +kernel
theorem d_M_run_61 : decode b_M_run 61 = .ok (.iload_n 2, 1) := by decide +kernel
theorem d_M_run_62 : decode b_M_run 62 = .ok (.baload, 1) := by decide +kernel
theorem d_M_run_63 : decode b_M_run 63 = .ok (.bipush 32, 2) := by decide +kernel
theorem d_M_run_65 : decode b_M_run 65 = .ok (.iadd, 1) := by decide +kernel
theorem d_M_run_66 : decode b_M_run 66 = .ok (.goto 9, 3) := by decide +kernel
theorem d_M_run_69 : decode b_M_run 69 = .ok (.aload_n 0, 1) := by decide +kernel
theorem d_M_run_70 : decode b_M_run 70 = .ok (.getfield 9, 3) := by decide +kernel
theorem d_M_run_73 : decode b_M_run 73 = .ok (.iload_n 2, 1) := by decide +kernel
theorem d_M_run_74 : decode b_M_run 74 = .ok (.baload, 1) := by decide +kernel
theorem d_M_run_75 : decode b_M_run 75 = .ok (.i2b, 1) := by decide +kernel
theorem d_M_run_76 : decode b_M_run 76 = .ok (.bastore, 1) := by decide +kernel
theorem d_M_run_77 : decode b_M_run 77 = .ok (.aload_n 0, 1) := by decide +kernel
theorem d_M_run_78 : decode b_M_run 78 = .ok (.dup, 1) := by decide +kernel
theorem d_M_run_79 : decode b_M_run 79 = .ok (.getfield 34, 3) := by decide +kernel
theorem d_M_run_82 : decode b_M_run 82 = .ok (.iconst 1, 1) := by decide +kernel
theorem d_M_run_83 : decode b_M_run 83 = .ok (.iadd, 1) := by decide +kernel
theorem d_M_run_84 : decode b_M_run 84 = .ok (.putfield 34, 3) := by decide +kernel
theorem d_M_run_87 : decode b_M_run 87 = .ok (.iinc 2 1, 3) := by decide +kernel
theorem d_M_run_90 : decode b_M_run 90 = .ok (.goto (-83), 3) := by decide +kernel
theorem d_M_run_93 : decode b_M_run 93 = .ok (.iload_n 2, 1) := by decide +kernel
theorem d_M_run_94 : decode b_M_run 94 = .ok (.ireturn, 1) := by decide +kernel
theorem d_M_last_0 : decode b_M_last 0 = .ok (.aload_n 0, 1) := by decide +kernel
theorem d_M_last_1 : decode b_M_last 1 = .ok (.getfield 34, 3) := by decide +kernel
theorem d_M_last_4 : decode b_M_last 4 = .ok (.iload_n 1, 1) := by decide +kernel
theorem d_M_last_5 : decode b_M_last 5 = .ok (.if_icmp .lt 17, 3) := by decide +kernel
theorem d_M_last_8 : decode b_M_last 8 = .ok (.aload_n 0, 1) := by decide +kernel
theorem d_M_last_9 : decode b_M_last 9 = .ok (.getfield 20, 3) := by decide +kernel
theorem d_M_last_12 : decode b_M_last 12 = .ok (.aload_n 0, 1) := by decide +kernel
theorem d_M_last_13 : decode b_M_last 13 = .ok (.getfield 34, 3) := by decide +kernel
theorem d_M_last_16 : decode b_M_last 16 = .ok (.iload_n 1, 1) := by decide +kernel
theorem d_M_last_17 : decode b_M_last 17 = .ok (.isub, 1) := by decide +kernel
theorem d_M_last_18 : decode b_M_last 18 = .ok (.baload, 1) := by decide +kernel
theorem d_M_last_19 : decode b_M_last 19 = .ok (.goto 4, 3) := by decide +kernel
theorem d_M_last_22 : decode b_M_last 22 = .ok (.iconst 0, 1) := by decide +kernel
theorem d_M_last_23 : decode b_M_last 23 = .ok (.ireturn, 1) := by decide +kernel
theorem d_M_note_0 : decode b_M_note 0 = .ok (.aload_n 0, 1) := by decide +kernel
theorem d_M_note_1 : decode b_M_note 1 = .ok (.getfield 34, 3) := by decide +kernel
theorem d_M_note_4 : decode b_M_note 4 = .ok (.istore_n 3, 1) := by decide +kernel
theorem d_M_note_5 : decode b_M_note 5 = .ok (.iload_n 2, 1) := by decide +kernel
theorem d_M_note_6 : decode b_M_note 6 = .ok (.ifCond .eq 54, 3) := by decide +kernel
theorem d_M_note_9 : decode b_M_note 9 = .ok (.iload_n 3, 1) := by decide +kernel
theorem d_M_note_10 : decode b_M_note 10 = .ok (.iconst 5, 1) := by decide +kernel
theorem d_M_note_11 : decode b_M_note 11 = .ok (.if_icmp .lt 49, 3) := by decide +kernel
theorem d_M_note_14 : decode b_M_note 14 = .ok (.aload_n 0, 1) := by decide +kernel
theorem d_M_note_15 : decode b_M_note 15 = .ok (.iconst 1, 1) := by decide +kernel
theorem d_M_note_16 : decode b_M_note 16 = .ok (.invokevirtual 41, 3) := by decide +kernel
theorem d_M_note_19 : decode b_M_note 19 = .ok (.bipush 115, 2) := by decide +kernel
theorem d_M_note_21 : decode b_M_note 21 = .ok (.if_icmp .ne 39, 3) := by decide +kernel
theorem d_M_note_24 : decode b_M_note 24 = .ok (.aload_n 0, 1) := by decide +kernel
theorem d_M_note_25 : decode b_M_note 25 = .ok (.iconst 2, 1) := by decide +kernel
theorem d_M_note_26 : decode b_M_note 26 = .ok (.invokevirtual 41, 3) := by decide +kernel
theorem d_M_note_29 : decode b_M_note 29 = .ok (.bipush 101, 2) := by decide +kernel
theorem d_M_note_31 : decode b_M_note 31 = .ok (.if_icmp .ne 29, 3) := by decide +kernel
theorem d_M_note_34 : decode b_M_note 34 = .ok (.aload_n 0, 1) := by decide +kernel
theorem d_M_note_35 : decode b_M_note 35 = .ok (.iconst 3, 1) := by decide +kernel
theorem d_M_note_36 : decode b_M_note 36 = .ok (.invokevirtual 41, 3) := by decide +kernel
theorem d_M_note_39 : decode b_M_note 39 = .ok (.bipush 105, 2) := by decide +kernel
theorem d_M_note_41 : decode b_M_note 41 = .ok (.if_icmp .ne 19, 3) := by decide +kernel
theorem d_M_note_44 : decode b_M_note 44 = .ok (.aload_n 0, 1) := by decide +kernel
theorem d_M_note_45 : decode b_M_note 45 = .ok (.getfield 20, 3) := by decide +kernel
theorem d_M_note_48 : decode b_M_note 48 = .ok (.iload_n 3, 1) := by decide +kernel
theorem d_M_note_49 : decode b_M_note 49 = .ok (.iconst 3, 1) := by decide +kernel
theorem d_M_note_50 : decode b_M_note 50 = .ok (.isub, 1) := by decide +kernel
theorem d_M_note_51 : decode b_M_note 51 = .ok (.bipush 121, 2) := by decide +kernel
theorem d_M_note_53 : decode b_M_note 53 = .ok (.bastore, 1) := by decide +kernel
theorem d_M_note_54 : decode b_M_note 54 = .ok (.iinc 3 (-2), 3) := by decide +kernel
theorem d_M_note_57 : decode b_M_note 57 = .ok (.goto 45, 3) := by decide +kernel
theorem d_M_note_60 : decode b_M_note 60 = .ok (.iload_n 2, 1) := by decide +kernel
theorem d_M_note_61 : decode b_M_note 61 = .ok (.ifCond .eq 41, 3) := by decide +kernel
theorem d_M_note_64 : decode b_M_note 64 = .ok (.iload_n 3, 1) := by decide +kernel
theorem d_M_note_65 : decode b_M_note 65 = .ok (.iconst 4, 1) := by decide +kernel
theorem d_M_note_66 : decode b_M_note 66 = .ok (.if_icmp .lt 36, 3) := by decide +kernel
theorem d_M_note_69 : decode b_M_note 69 = .ok (.aload_n 0, 1) := by decide +kernel
theorem d_M_note_70 : decode b_M_note 70 = .ok (.iconst 1, 1) := by decide +kernel
theorem d_M_note_71 : decode b_M_note 71 = .ok (.invokevirtual 41, 3) := by decide +kernel
theorem d_M_note_74 : decode b_M_note 74 = .ok (.bipush 115, 2) := by decide +kernel
theorem d_M_note_76 : decode b_M_note 76 = .ok (.if_icmp .ne 26, 3) := by decide +kernel
theorem d_M_note_79 : decode b_M_note 79 = .ok (.aload_n 0, 1) := by decide +kernel
theorem d_M_note_80 : decode b_M_note 80 = .ok (.iconst 2, 1) := by decide +kernel
theorem d_M_note_81 : decode b_M_note 81 = .ok (.invokevirtual 41, 3) := by decide +kernel
theorem d_M_note_84 : decode b_M_note 84 = .ok (.bipush 115, 2) := by decide +kernel
theorem d_M_note_86 : decode b_M_note 86 = .ok (.if_icmp .eq 16, 3) := by decide +kernel
theorem d_M_note_89 : decode b_M_note 89 = .ok (.aload_n 0, 1) := by decide +kernel
theorem d_M_note_90 : decode b_M_note 90 = .ok (.iconst 2, 1) := by decide +kernel
theorem d_M_note_91 : decode b_M_note 91 = .ok (.invokevirtual 41, 3) := by decide +kernel
theorem d_M_note_94 : decode b_M_note 94 = .ok (.bipush 117, 2) := by decide +kernel
theorem d_M_note_96 : decode b_M_note 96 = .ok (.if_icmp .eq 6, 3) := by decide +kernel
theorem d_M_note_99 : decode b_M_note 99 = .ok (.iinc 3 (-1), 3) := by decide +kernel
theorem d_M_note_102 : decode b_M_note 102 = .ok (.iload_n 3, 1) := by decide +kernel
theorem d_M_note_103 : decode b_M_note 103 = .ok (.bipush 24, 2) := by decide +kernel
theorem d_M_note_105 : decode b_M_note 105 = .ok (.if_icmp .le 6, 3) := by decide +kernel
theorem d_M_note_108 : decode b_M_note 108 = .ok (.bipush 24, 2) := by decide +kernel
theorem d_M_note_110 : decode b_M_note 110 = .ok (.istore_n 3, 1) := by decide +kernel
theorem d_M_note_111 : decode b_M_note 111 = .ok (.iconst 0, 1) := by decide +kernel
theorem d_M_note_112 : decode b_M_note 112 = .ok (.istore 4, 2) := by decide +kernel
theorem d_M_note_114 : decode b_M_note 114 = .ok (.iload 4, 2) := by decide +kernel
theorem d_M_note_116 : decode b_M_note 116 = .ok (.iload_n 3, 1) := by decide +kernel
theorem d_M_note_117 : decode b_M_note 117 = .ok (.if_icmp .ge 28, 3) := by decide +kernel
theorem d_M_note_120 : decode b_M_note 120 = .ok (.aload_n 0, 1) := by decide +kernel
theorem d_M_note_121 : decode b_M_note 121 = .ok (.getfield 13, 3) := by decide +kernel
theorem d_M_note_124 : decode b_M_note 124 = .ok (.bipush 24, 2) := by decide +kernel
theorem d_M_note_126 : decode b_M_note 126 = .ok (.iload_n 1, 1) := by decide +kernel
theorem d_M_note_127 : decode b_M_note 127 = .ok (.imul, 1) := by decide +kernel
theorem d_M_note_128 : decode b_M_note 128 = .ok (.iload 4, 2) := by decide +kernel
theorem d_M_note_130 : decode b_M_note 130 = .ok (.iadd, 1) := by decide +kernel
theorem d_M_note_131 : decode b_M_note 131 = .ok (.aload_n 0, 1) := by decide +kernel
theorem d_M_note_132 : decode b_M_note 132 = .ok (.getfield 20, 3) := by decide +kernel
theorem d_M_note_135 : decode b_M_note 135 = .ok (.iload 4, 2) := by decide +kernel
theorem d_M_note_137 : decode b_M_note 137 = .ok (.baload, 1) := by decide +kernel
theorem d_M_note_138 : decode b_M_note 138 = .ok (.bastore, 1) := by decide +kernel
theorem d_M_note_139 : decode b_M_note 139 = .ok (.iinc 4 1, 3) := by decide +kernel
theorem d_M_note_142 : decode b_M_note 142 = .ok (.goto (-28), 3) := by decide +kernel
theorem d_M_note_145 : decode b_M_note 145 = .ok (.aload_n 0, 1) := by decide +kernel
theorem d_M_note_146 : decode b_M_note 146 = .ok (.getfield 16, 3) := by decide +kernel
theorem d_M_note_149 : decode b_M_note 149 = .ok (.iload_n 1, 1) := by decide +kernel
theorem d_M_note_150 : decode b_M_note 150 = .ok (.iload_n 3, 1) := by decide +kernel
theorem d_M_note_151 : decode b_M_note 151 = .ok (.iastore, 1) := by decide +kernel
theorem d_M_note_152 : decode b_M_note 152 = .ok (.return_, 1) := by decide +kernel
theorem d_M_oneWord_0 : decode b_M_oneWord 0 = .ok (.aload_n 0, 1) := by decide +kernel
theorem d_M_oneWord_1 : decode b_M_oneWord 1 = .ok (.getfield 26, 3) := by decide +kernel
theorem d_M_oneWord_4 : decode b_M_oneWord 4 = .ok (.ifCond .le 19, 3) := by decide +kernel
theorem d_M_oneWord_7 : decode b_M_oneWord 7 = .ok (.aload_n 0, 1) := by decide +kernel
theorem d_M_oneWord_8 : decode b_M_oneWord 8 = .ok (.iconst 0, 1) := by decide +kernel
theorem d_M_oneWord_9 : decode b_M_oneWord 9 = .ok (.invokevirtual 45, 3) := by decide +kernel
theorem d_M_oneWord_12 : decode b_M_oneWord 12 = .ok (.aload_n 0, 1) := by decide +kernel
theorem d_M_oneWord_13 : decode b_M_oneWord 13 = .ok (.getfield 26, 3) := by decide +kernel
theorem d_M_oneWord_16 : decode b_M_oneWord 16 = .ok (.if_icmp .ne 7, 3) := by decide +kernel
theorem d_M_oneWord_19 : decode b_M_oneWord 19 = .ok (.iconst 1, 1) := by decide +kernel
theorem d_M_oneWord_20 : decode b_M_oneWord 20 = .ok (.goto 4, 3) := by decide +kernel
theorem d_M_oneWord_23 : decode b_M_oneWord 23 = .ok (.iconst 0, 1) := by decide +kernel
theorem d_M_oneWord_24 : decode b_M_oneWord 24 = .ok (.istore_n 1, 1) := by decide +kernel
theorem d_M_oneWord_25 : decode b_M_oneWord 25 = .ok (.aload_n 0, 1) := by decide +kernel
theorem d_M_oneWord_26 : decode b_M_oneWord 26 = .ok (.iconst 0, 1) := by decide +kernel
theorem d_M_oneWord_27 : decode b_M_oneWord 27 = .ok (.putfield 26, 3) := by decide +kernel
theorem d_M_oneWord_30 : decode b_M_oneWord 30 = .ok (.iload_n 1, 1) := by decide +kernel
theorem d_M_oneWord_31 : decode b_M_oneWord 31 = .ok (.ireturn, 1) := by decide +kernel
theorem d_M_read_0 : decode b_M_read 0 = .ok (.aload_n 0, 1) := by decide +kernel
theorem d_M_read_1 : decode b_M_read 1 = .ok (.iconst 0, 1) := by decide +kernel
theorem d_M_read_2 : decode b_M_read 2 = .ok (.putfield 48, 3) := by decide +kernel
theorem d_M_read_5 : decode b_M_read 5 = .ok (.iconst 0, 1) := by decide +kernel
theorem d_M_read_6 : decode b_M_read 6 = .ok (.istore_n 1, 1) := by decide +kernel
theorem d_M_read_7 : decode b_M_read 7 = .ok (.iload_n 1, 1) := by decide +kernel
theorem d_M_read_8 : decode b_M_read 8 = .ok (.aload_n 0, 1) := by decide +kernel
theorem d_M_read_9 : decode b_M_read 9 = .ok (.getfield 26, 3) := by decide +kernel
theorem d_M_read_12 : decode b_M_read 12 = .ok (.if_icmp .ge 49, 3) := by decide +kernel
theorem d_M_read_15 : decode b_M_read 15 = .ok (.aload_n 0, 1) := by decide +kernel
theorem d_M_read_16 : decode b_M_read 16 = .ok (.getfield 9, 3) := by decide +kernel
theorem d_M_read_19 : decode b_M_read 19 = .ok (.iload_n 1, 1) := by decide +kernel
theorem d_M_read_20 : decode b_M_read 20 = .ok (.baload, 1) := by decide +kernel
theorem d_M_read_21 : decode b_M_read 21 = .ok (.invokestatic 37, 3) := by decide +kernel
theorem d_M_read_24 : decode b_M_read 24 = .ok (.ifCond .ne 9, 3) := by decide +kernel
theorem d_M_read_27 : decode b_M_read 27 = .ok (.iinc 1 1, 3) := by decide +kernel
theorem d_M_read_30 : decode b_M_read 30 = .ok (.goto (-23), 3) := by decide +kernel
theorem d_M_read_33 : decode b_M_read 33 = .ok (.aload_n 0, 1) := by decide +kernel
theorem d_M_read_34 : decode b_M_read 34 = .ok (.iload_n 1, 1) := by decide +kernel
theorem d_M_read_35 : decode b_M_read 35 = .ok (.invokevirtual 45, 3) := by decide +kernel
theorem d_M_read_38 : decode b_M_read 38 = .ok (.istore_n 1, 1) := by decide +kernel
theorem d_M_read_39 : decode b_M_read 39 = .ok (.aload_n 0, 1) := by decide +kernel
theorem d_M_read_40 : decode b_M_read 40 = .ok (.aload_n 0, 1) := by decide +kernel
theorem d_M_read_41 : decode b_M_read 41 = .ok (.getfield 48, 3) := by decide +kernel
theorem d_M_read_44 : decode b_M_read 44 = .ok (.iconst 1, 1) := by decide +kernel
theorem d_M_read_45 : decode b_M_read 45 = .ok (.invokevirtual 51, 3) := by decide +kernel
theorem d_M_read_48 : decode b_M_read 48 = .ok (.aload_n 0, 1) := by decide +kernel
theorem d_M_read_49 : decode b_M_read 49 = .ok (.dup, 1) := by decide +kernel
theorem d_M_read_50 : decode b_M_read 50 = .ok (.getfield 48, 3) := by decide +kernel
theorem d_M_read_53 : decode b_M_read 53 = .ok (.iconst 1, 1) := by decide +kernel
theorem d_M_read_54 : decode b_M_read 54 = .ok (.iadd, 1) := by decide +kernel
theorem d_M_read_55 : decode b_M_read 55 = .ok (.putfield 48, 3) := by decide +kernel
theorem d_M_read_58 : decode b_M_read 58 = .ok (.goto (-51), 3) := by decide +kernel
theorem d_M_read_61 : decode b_M_read 61 = .ok (.aload_n 0, 1) := by decide +kernel
theorem d_M_read_62 : decode b_M_read 62 = .ok (.iconst 0, 1) := by decide +kernel
theorem d_M_read_63 : decode b_M_read 63 = .ok (.putfield 26, 3) := by decide +kernel
theorem d_M_read_66 : decode b_M_read 66 = .ok (.aload_n 0, 1) := by decide +kernel
theorem d_M_read_67 : decode b_M_read 67 = .ok (.getfield 48, 3) := by decide +kernel
theorem d_M_read_70 : decode b_M_read 70 = .ok (.ireturn, 1) := by decide +kernel
theorem d_M_is_0 : decode b_M_is 0 = .ok (.iload_n 1, 1) := by decide +kernel
theorem d_M_is_1 : decode b_M_is 1 = .ok (.ifCond .lt 15, 3) := by decide +kernel
theorem d_M_is_4 : decode b_M_is 4 = .ok (.iload_n 1, 1) := by decide +kernel
theorem d_M_is_5 : decode b_M_is 5 = .ok (.aload_n 0, 1) := by decide +kernel
theorem d_M_is_6 : decode b_M_is 6 = .ok (.getfield 48, 3) := by decide +kernel
theorem d_M_is_9 : decode b_M_is 9 = .ok (.if_icmp .ge 7, 3) := by decide +kernel
theorem d_M_is_12 : decode b_M_is 12 = .ok (.iconst 1, 1) := by decide +kernel
theorem d_M_is_13 : decode b_M_is 13 = .ok (.goto 4, 3) := by decide +kernel
theorem d_M_is_16 : decode b_M_is 16 = .ok (.iconst 0, 1) := by decide +kernel
theorem d_M_is_17 : decode b_M_is 17 = .ok (.ireturn, 1) := by decide +kernel
theorem d_M_sign_0 : decode b_M_sign 0 = .ok (.aload_n 0, 1) := by decide +kernel
theorem d_M_sign_1 : decode b_M_sign 1 = .ok (.iload_n 1, 1) := by decide +kernel
theorem d_M_sign_2 : decode b_M_sign 2 = .ok (.invokevirtual 55, 3) := by decide +kernel
theorem d_M_sign_5 : decode b_M_sign 5 = .ok (.ifCond .eq 18, 3) := by decide +kernel
theorem d_M_sign_8 : decode b_M_sign 8 = .ok (.iload_n 2, 1) := by decide +kernel
theorem d_M_sign_9 : decode b_M_sign 9 = .ok (.iconst (-1), 1) := by decide +kernel
theorem d_M_sign_10 : decode b_M_sign 10 = .ok (.if_icmp .lt 13, 3) := by decide +kernel
theorem d_M_sign_13 : decode b_M_sign 13 = .ok (.iload_n 2, 1) := by decide +kernel
theorem d_M_sign_14 : decode b_M_sign 14 = .ok (.aload_n 0, 1) := by decide +kernel
theorem d_M_sign_15 : decode b_M_sign 15 = .ok (.getfield 16, 3) := by decide +kernel
theorem d_M_sign_18 : decode b_M_sign 18 = .ok (.iload_n 1, 1) := by decide +kernel
theorem d_M_sign_19 : decode b_M_sign 19 = .ok (.iaload, 1) := by decide +kernel
theorem d_M_sign_20 : decode b_M_sign 20 = .ok (.if_icmp .lt 6, 3) := by decide +kernel
theorem d_M_sign_23 : decode b_M_sign 23 = .ok (.bipush (-2), 2) := by decide +kernel
theorem d_M_sign_25 : decode b_M_sign 25 = .ok (.ireturn, 1) := by decide +kernel
theorem d_M_sign_26 : decode b_M_sign 26 = .ok (.iload_n 2, 1) := by decide +kernel
theorem d_M_sign_27 : decode b_M_sign 27 = .ok (.iconst (-1), 1) := by decide +kernel
theorem d_M_sign_28 : decode b_M_sign 28 = .ok (.if_icmp .ne 12, 3) := by decide +kernel
theorem d_M_sign_31 : decode b_M_sign 31 = .ok (.aload_n 0, 1) := by decide +kernel
theorem d_M_sign_32 : decode b_M_sign 32 = .ok (.getfield 16, 3) := by decide +kernel
theorem d_M_sign_35 : decode b_M_sign 35 = .ok (.iload_n 1, 1) := by decide +kernel
theorem d_M_sign_36 : decode b_M_sign 36 = .ok (.iaload, 1) := by decide +kernel
theorem d_M_sign_37 : decode b_M_sign 37 = .ok (.goto 14, 3) := by decide +kernel
theorem d_M_sign_40 : decode b_M_sign 40 = .ok (.aload_n 0, 1) := by decide +kernel
theorem d_M_sign_41 : decode b_M_sign 41 = .ok (.getfield 13, 3) := by decide +kernel
theorem d_M_sign_44 : decode b_M_sign 44 = .ok (.bipush 24, 2) := by decide +kernel
theorem d_M_sign_46 : decode b_M_sign 46 = .ok (.iload_n 1, 1) := by decide +kernel
theorem d_M_sign_47 : decode b_M_sign 47 = .ok (.imul, 1) := by decide +kernel
theorem d_M_sign_48 : decode b_M_sign 48 = .ok (.iload_n 2, 1) := by decide +kernel
theorem d_M_sign_49 : decode b_M_sign 49 = .ok (.iadd, 1) := by decide +kernel
theorem d_M_sign_50 : decode b_M_sign 50 = .ok (.baload, 1) := by decide +kernel
theorem d_M_sign_51 : decode b_M_sign 51 = .ok (.ireturn, 1) := by decide +kernel
theorem d_M_order_0 : decode b_M_order 0 = .ok (.iconst 0, 1) := by decide +kernel
theorem d_M_order_1 : decode b_M_order 1 = .ok (.istore_n 3, 1) := by decide +kernel
theorem d_M_order_2 : decode b_M_order 2 = .ok (.iload_n 3, 1) := by decide +kernel
theorem d_M_order_3 : decode b_M_order 3 = .ok (.aload_n 0, 1) := by decide +kernel
theorem d_M_order_4 : decode b_M_order 4 = .ok (.getfield 16, 3) := by decide +kernel
theorem d_M_order_7 : decode b_M_order 7 = .ok (.iload_n 1, 1) := by decide +kernel
theorem d_M_order_8 : decode b_M_order 8 = .ok (.iaload, 1) := by decide +kernel
theorem d_M_order_9 : decode b_M_order 9 = .ok (.if_icmp .ge 75, 3) := by decide +kernel
theorem d_M_order_12 : decode b_M_order 12 = .ok (.iload_n 3, 1) := by decide +kernel
theorem d_M_order_13 : decode b_M_order 13 = .ok (.aload_n 0, 1) := by decide +kernel
theorem d_M_order_14 : decode b_M_order 14 = .ok (.getfield 16, 3) := by decide +kernel
theorem d_M_order_17 : decode b_M_order 17 = .ok (.iload_n 2, 1) := by decide +kernel
theorem d_M_order_18 : decode b_M_order 18 = .ok (.iaload, 1) := by decide +kernel
theorem d_M_order_19 : decode b_M_order 19 = .ok (.if_icmp .ge 65, 3) := by decide +kernel
theorem d_M_order_22 : decode b_M_order 22 = .ok (.aload_n 0, 1) := by decide +kernel
theorem d_M_order_23 : decode b_M_order 23 = .ok (.getfield 13, 3) := by decide +kernel
theorem d_M_order_26 : decode b_M_order 26 = .ok (.bipush 24, 2) := by decide +kernel
theorem d_M_order_28 : decode b_M_order 28 = .ok (.iload_n 1, 1) := by decide +kernel
theorem d_M_order_29 : decode b_M_order 29 = .ok (.imul, 1) := by decide +kernel
theorem d_M_order_30 : decode b_M_order 30 = .ok (.iload_n 3, 1) := by decide +kernel
theorem d_M_order_31 : decode b_M_order 31 = .ok (.iadd, 1) := by decide +kernel
theorem d_M_order_32 : decode b_M_order 32 = .ok (.baload, 1) := by decide +kernel
theorem d_M_order_33 : decode b_M_order 33 = .ok (.aload_n 0, 1) := by decide +kernel
theorem d_M_order_34 : decode b_M_order 34 = .ok (.getfield 13, 3) := by decide +kernel
theorem d_M_order_37 : decode b_M_order 37 = .ok (.bipush 24, 2) := by decide +kernel
theorem d_M_order_39 : decode b_M_order 39 = .ok (.iload_n 2, 1) := by decide +kernel
theorem d_M_order_40 : decode b_M_order 40 = .ok (.imul, 1) := by decide +kernel
theorem d_M_order_41 : decode b_M_order 41 = .ok (.iload_n 3, 1) := by decide +kernel
theorem d_M_order_42 : decode b_M_order 42 = .ok (.iadd, 1) := by decide +kernel
theorem d_M_order_43 : decode b_M_order 43 = .ok (.baload, 1) := by decide +kernel
theorem d_M_order_44 : decode b_M_order 44 = .ok (.if_icmp .eq 34, 3) := by decide +kernel
theorem d_M_order_47 : decode b_M_order 47 = .ok (.aload_n 0, 1) := by decide +kernel
theorem d_M_order_48 : decode b_M_order 48 = .ok (.getfield 13, 3) := by decide +kernel
theorem d_M_order_51 : decode b_M_order 51 = .ok (.bipush 24, 2) := by decide +kernel
theorem d_M_order_53 : decode b_M_order 53 = .ok (.iload_n 1, 1) := by decide +kernel
theorem d_M_order_54 : decode b_M_order 54 = .ok (.imul, 1) := by decide +kernel
theorem d_M_order_55 : decode b_M_order 55 = .ok (.iload_n 3, 1) := by decide +kernel
theorem d_M_order_56 : decode b_M_order 56 = .ok (.iadd, 1) := by decide +kernel
theorem d_M_order_57 : decode b_M_order 57 = .ok (.baload, 1) := by decide +kernel
theorem d_M_order_58 : decode b_M_order 58 = .ok (.aload_n 0, 1) := by decide +kernel
theorem d_M_order_59 : decode b_M_order 59 = .ok (.getfield 13, 3) := by decide +kernel
theorem d_M_order_62 : decode b_M_order 62 = .ok (.bipush 24, 2) := by decide +kernel
theorem d_M_order_64 : decode b_M_order 64 = .ok (.iload_n 2, 1) := by decide +kernel
theorem d_M_order_65 : decode b_M_order 65 = .ok (.imul, 1) := by decide +kernel
theorem d_M_order_66 : decode b_M_order 66 = .ok (.iload_n 3, 1) := by decide +kernel
theorem d_M_order_67 : decode b_M_order 67 = .ok (.iadd, 1) := by decide +kernel
theorem d_M_order_68 : decode b_M_order 68 = .ok (.baload, 1) := by decide +kernel
theorem d_M_order_69 : decode b_M_order 69 = .ok (.if_icmp .ge 7, 3) := by decide +kernel
theorem d_M_order_72 : decode b_M_order 72 = .ok (.iconst (-1), 1) := by decide +kernel
theorem d_M_order_73 : decode b_M_order 73 = .ok (.goto 4, 3) := by decide +kernel
theorem d_M_order_76 : decode b_M_order 76 = .ok (.iconst 1, 1) := by decide +kernel
theorem d_M_order_77 : decode b_M_order 77 = .ok (.ireturn, 1) := by decide +kernel
theorem d_M_order_78 : decode b_M_order 78 = .ok (.iinc 3 1, 3) := by decide +kernel
theorem d_M_order_81 : decode b_M_order 81 = .ok (.goto (-79), 3) := by decide +kernel
theorem d_M_order_84 : decode b_M_order 84 = .ok (.aload_n 0, 1) := by decide +kernel
theorem d_M_order_85 : decode b_M_order 85 = .ok (.getfield 16, 3) := by decide +kernel
theorem d_M_order_88 : decode b_M_order 88 = .ok (.iload_n 1, 1) := by decide +kernel
theorem d_M_order_89 : decode b_M_order 89 = .ok (.iaload, 1) := by decide +kernel
theorem d_M_order_90 : decode b_M_order 90 = .ok (.aload_n 0, 1) := by decide +kernel
theorem d_M_order_91 : decode b_M_order 91 = .ok (.getfield 16, 3) := by decide +kernel
theorem d_M_order_94 : decode b_M_order 94 = .ok (.iload_n 2, 1) := by decide +kernel
theorem d_M_order_95 : decode b_M_order 95 = .ok (.iaload, 1) := by decide +kernel
theorem d_M_order_96 : decode b_M_order 96 = .ok (.if_icmp .ge 7, 3) := by decide +kernel
theorem d_M_order_99 : decode b_M_order 99 = .ok (.iconst (-1), 1) := by decide +kernel
theorem d_M_order_100 : decode b_M_order 100 = .ok (.goto 23, 3) := by decide +kernel
theorem d_M_order_103 : decode b_M_order 103 = .ok (.aload_n 0, 1) := by decide +kernel
theorem d_M_order_104 : decode b_M_order 104 = .ok (.getfield 16, 3) := by decide +kernel
theorem d_M_order_107 : decode b_M_order 107 = .ok (.iload_n 1, 1) := by decide +kernel
theorem d_M_order_108 : decode b_M_order 108 = .ok (.iaload, 1) := by decide +kernel
theorem d_M_order_109 : decode b_M_order 109 = .ok (.aload_n 0, 1) := by decide +kernel
theorem d_M_order_110 : decode b_M_order 110 = .ok (.getfield 16, 3) := by decide +kernel
theorem d_M_order_113 : decode b_M_order 113 = .ok (.iload_n 2, 1) := by decide +kernel
theorem d_M_order_114 : decode b_M_order 114 = .ok (.iaload, 1) := by decide +kernel
theorem d_M_order_115 : decode b_M_order 115 = .ok (.if_icmp .le 7, 3) := by decide +kernel
theorem d_M_order_118 : decode b_M_order 118 = .ok (.iconst 1, 1) := by decide +kernel
theorem d_M_order_119 : decode b_M_order 119 = .ok (.goto 4, 3) := by decide +kernel
theorem d_M_order_122 : decode b_M_order 122 = .ok (.iconst 0, 1) := by decide +kernel
theorem d_M_order_123 : decode b_M_order 123 = .ok (.ireturn, 1) := by decide +kernel
theorem d_M_first_0 : decode b_M_first 0 = .ok (.aload_n 0, 1) := by decide +kernel
theorem d_M_first_1 : decode b_M_first 1 = .ok (.iload_n 1, 1) := by decide +kernel
theorem d_M_first_2 : decode b_M_first 2 = .ok (.invokevirtual 55, 3) := by decide +kernel
theorem d_M_first_5 : decode b_M_first 5 = .ok (.ifCond .ne 6, 3) := by decide +kernel
theorem d_M_first_8 : decode b_M_first 8 = .ok (.bipush (-2), 2) := by decide +kernel
theorem d_M_first_10 : decode b_M_first 10 = .ok (.ireturn, 1) := by decide +kernel
theorem d_M_first_11 : decode b_M_first 11 = .ok (.iconst 0, 1) := by decide +kernel
theorem d_M_first_12 : decode b_M_first 12 = .ok (.istore_n 2, 1) := by decide +kernel
theorem d_M_first_13 : decode b_M_first 13 = .ok (.aload_n 0, 1) := by decide +kernel
theorem d_M_first_14 : decode b_M_first 14 = .ok (.iload_n 2, 1) := by decide +kernel
theorem d_M_first_15 : decode b_M_first 15 = .ok (.iload_n 1, 1) := by decide +kernel
theorem d_M_first_16 : decode b_M_first 16 = .ok (.invokevirtual 58, 3) := by decide +kernel
theorem d_M_first_19 : decode b_M_first 19 = .ok (.ifCond .eq 9, 3) := by decide +kernel
theorem d_M_first_22 : decode b_M_first 22 = .ok (.iinc 2 1, 3) := by decide +kernel
theorem d_M_first_25 : decode b_M_first 25 = .ok (.goto (-12), 3) := by decide +kernel
theorem d_M_first_28 : decode b_M_first 28 = .ok (.iload_n 2, 1) := by decide +kernel
theorem d_M_first_29 : decode b_M_first 29 = .ok (.ireturn, 1) := by decide +kernel
theorem d_M_different_0 : decode b_M_different 0 = .ok (.iconst 0, 1) := by decide +kernel
theorem d_M_different_1 : decode b_M_different 1 = .ok (.istore_n 1, 1) := by decide +kernel
theorem d_M_different_2 : decode b_M_different 2 = .ok (.iconst 0, 1) := by decide +kernel
theorem d_M_different_3 : decode b_M_different 3 = .ok (.istore_n 2, 1) := by decide +kernel
theorem d_M_different_4 : decode b_M_different 4 = .ok (.iload_n 2, 1) := by decide +kernel
theorem d_M_different_5 : decode b_M_different 5 = .ok (.aload_n 0, 1) := by decide +kernel
theorem d_M_different_6 : decode b_M_different 6 = .ok (.getfield 48, 3) := by decide +kernel
theorem d_M_different_9 : decode b_M_different 9 = .ok (.if_icmp .ge 26, 3) := by decide +kernel
theorem d_M_different_12 : decode b_M_different 12 = .ok (.iload_n 1, 1) := by decide +kernel
theorem d_M_different_13 : decode b_M_different 13 = .ok (.aload_n 0, 1) := by decide +kernel
theorem d_M_different_14 : decode b_M_different 14 = .ok (.iload_n 2, 1) := by decide +kernel
theorem d_M_different_15 : decode b_M_different 15 = .ok (.invokevirtual 62, 3) := by decide +kernel
theorem d_M_different_18 : decode b_M_different 18 = .ok (.iload_n 2, 1) := by decide +kernel
theorem d_M_different_19 : decode b_M_different 19 = .ok (.if_icmp .ne 7, 3) := by decide +kernel
theorem d_M_different_22 : decode b_M_different 22 = .ok (.iconst 1, 1) := by decide +kernel
theorem d_M_different_23 : decode b_M_different 23 = .ok (.goto 4, 3) := by decide +kernel
theorem d_M_different_26 : decode b_M_different 26 = .ok (.iconst 0, 1) := by decide +kernel
theorem d_M_different_27 : decode b_M_different 27 = .ok (.iadd, 1) := by decide +kernel
theorem d_M_different_28 : decode b_M_different 28 = .ok (.istore_n 1, 1) := by decide +kernel
theorem d_M_different_29 : decode b_M_different 29 = .ok (.iinc 2 1, 3) := by decide +kernel
theorem d_M_different_32 : decode b_M_different 32 = .ok (.goto (-28), 3) := by decide +kernel
theorem d_M_different_35 : decode b_M_different 35 = .ok (.iload_n 1, 1) := by decide +kernel
theorem d_M_different_36 : decode b_M_different 36 = .ok (.ireturn, 1) := by decide +kernel
theorem d_M_compare_0 : decode b_M_compare 0 = .ok (.aload_n 0, 1) := by decide +kernel
theorem d_M_compare_1 : decode b_M_compare 1 = .ok (.iload_n 1, 1) := by decide +kernel
theorem d_M_compare_2 : decode b_M_compare 2 = .ok (.invokevirtual 55, 3) := by decide +kernel
theorem d_M_compare_5 : decode b_M_compare 5 = .ok (.ifCond .eq 20, 3) := by decide +kernel
theorem d_M_compare_8 : decode b_M_compare 8 = .ok (.aload_n 0, 1) := by decide +kernel
theorem d_M_compare_9 : decode b_M_compare 9 = .ok (.iload_n 2, 1) := by decide +kernel
theorem d_M_compare_10 : decode b_M_compare 10 = .ok (.invokevirtual 55, 3) := by decide +kernel
theorem d_M_compare_13 : decode b_M_compare 13 = .ok (.ifCond .eq 12, 3) := by decide +kernel
theorem d_M_compare_16 : decode b_M_compare 16 = .ok (.aload_n 0, 1) := by decide +kernel
theorem d_M_compare_17 : decode b_M_compare 17 = .ok (.iload_n 1, 1) := by decide +kernel
theorem d_M_compare_18 : decode b_M_compare 18 = .ok (.iload_n 2, 1) := by decide +kernel
theorem d_M_compare_19 : decode b_M_compare 19 = .ok (.invokevirtual 58, 3) := by decide +kernel
theorem d_M_compare_22 : decode b_M_compare 22 = .ok (.goto 5, 3) := by decide +kernel
theorem d_M_compare_25 : decode b_M_compare 25 = .ok (.bipush (-2), 2) := by decide +kernel
theorem d_M_compare_27 : decode b_M_compare 27 = .ok (.ireturn, 1) := by decide +kernel
theorem d_M_distance_0 : decode b_M_distance 0 = .ok (.bipush 25, 2) := by decide +kernel
theorem d_M_distance_2 : decode b_M_distance 2 = .ok (.istore_n 3, 1) := by decide +kernel
theorem d_M_distance_3 : decode b_M_distance 3 = .ok (.iconst 0, 1) := by decide +kernel
theorem d_M_distance_4 : decode b_M_distance 4 = .ok (.istore 4, 2) := by decide +kernel
theorem d_M_distance_6 : decode b_M_distance 6 = .ok (.iload 4, 2) := by decide +kernel
theorem d_M_distance_8 : decode b_M_distance 8 = .ok (.aload_n 0, 1) := by decide +kernel
theorem d_M_distance_9 : decode b_M_distance 9 = .ok (.getfield 16, 3) := by decide +kernel
theorem d_M_distance_12 : decode b_M_distance 12 = .ok (.iload_n 1, 1) := by decide +kernel
theorem d_M_distance_13 : decode b_M_distance 13 = .ok (.iaload, 1) := by decide +kernel
theorem d_M_distance_14 : decode b_M_distance 14 = .ok (.if_icmp .gt 211, 3) := by decide +kernel
theorem d_M_distance_17 : decode b_M_distance 17 = .ok (.iconst 0, 1) := by decide +kernel
theorem d_M_distance_18 : decode b_M_distance 18 = .ok (.istore 5, 2) := by decide +kernel
theorem d_M_distance_20 : decode b_M_distance 20 = .ok (.iload 5, 2) := by decide +kernel
theorem d_M_distance_22 : decode b_M_distance 22 = .ok (.aload_n 0, 1) := by decide +kernel
theorem d_M_distance_23 : decode b_M_distance 23 = .ok (.getfield 16, 3) := by decide +kernel
theorem d_M_distance_26 : decode b_M_distance 26 = .ok (.iload_n 2, 1) := by decide +kernel
theorem d_M_distance_27 : decode b_M_distance 27 = .ok (.iaload, 1) := by decide +kernel
theorem d_M_distance_28 : decode b_M_distance 28 = .ok (.if_icmp .gt 191, 3) := by decide +kernel
theorem d_M_distance_31 : decode b_M_distance 31 = .ok (.iload 4, 2) := by decide +kernel
theorem d_M_distance_33 : decode b_M_distance 33 = .ok (.ifCond .ne 8, 3) := by decide +kernel
theorem d_M_distance_36 : decode b_M_distance 36 = .ok (.iload 5, 2) := by decide +kernel
theorem d_M_distance_38 : decode b_M_distance 38 = .ok (.goto 16, 3) := by decide +kernel
theorem d_M_distance_41 : decode b_M_distance 41 = .ok (.iload 5, 2) := by decide +kernel
theorem d_M_distance_43 : decode b_M_distance 43 = .ok (.ifCond .ne 8, 3) := by decide +kernel
theorem d_M_distance_46 : decode b_M_distance 46 = .ok (.iload 4, 2) := by decide +kernel
theorem d_M_distance_48 : decode b_M_distance 48 = .ok (.goto 6, 3) := by decide +kernel
theorem d_M_distance_51 : decode b_M_distance 51 = .ok (.sipush 1000, 3) := by decide +kernel
theorem d_M_distance_54 : decode b_M_distance 54 = .ok (.istore 6, 2) := by decide +kernel
theorem d_M_distance_56 : decode b_M_distance 56 = .ok (.iload 4, 2) := by decide +kernel
theorem d_M_distance_58 : decode b_M_distance 58 = .ok (.ifCond .le 141, 3) := by decide +kernel
theorem d_M_distance_61 : decode b_M_distance 61 = .ok (.iload 5, 2) := by decide +kernel
theorem d_M_distance_63 : decode b_M_distance 63 = .ok (.ifCond .le 136, 3) := by decide +kernel
theorem d_M_distance_66 : decode b_M_distance 66 = .ok (.aload_n 0, 1) := by decide +kernel
theorem d_M_distance_67 : decode b_M_distance 67 = .ok (.getfield 23, 3) := by decide +kernel
theorem d_M_distance_70 : decode b_M_distance 70 = .ok (.iload_n 3, 1) := by decide +kernel
theorem d_M_distance_71 : decode b_M_distance 71 = .ok (.iload 4, 2) := by decide +kernel
theorem d_M_distance_73 : decode b_M_distance 73 = .ok (.iconst 1, 1) := by decide +kernel
theorem d_M_distance_74 : decode b_M_distance 74 = .ok (.isub, 1) := by decide +kernel
theorem d_M_distance_75 : decode b_M_distance 75 = .ok (.imul, 1) := by decide +kernel
theorem d_M_distance_76 : decode b_M_distance 76 = .ok (.iload 5, 2) := by decide +kernel
theorem d_M_distance_78 : decode b_M_distance 78 = .ok (.iadd, 1) := by decide +kernel
theorem d_M_distance_79 : decode b_M_distance 79 = .ok (.iconst 1, 1) := by decide +kernel
theorem d_M_distance_80 : decode b_M_distance 80 = .ok (.isub, 1) := by decide +kernel
theorem d_M_distance_81 : decode b_M_distance 81 = .ok (.iaload, 1) := by decide +kernel
theorem d_M_distance_82 : decode b_M_distance 82 = .ok (.aload_n 0, 1) := by decide +kernel
theorem d_M_distance_83 : decode b_M_distance 83 = .ok (.getfield 13, 3) := by decide +kernel
theorem d_M_distance_86 : decode b_M_distance 86 = .ok (.bipush 24, 2) := by decide +kernel
theorem d_M_distance_88 : decode b_M_distance 88 = .ok (.iload_n 1, 1) := by decide +kernel
theorem d_M_distance_89 : decode b_M_distance 89 = .ok (.imul, 1) := by decide +kernel
theorem d_M_distance_90 : decode b_M_distance 90 = .ok (.iload 4, 2) := by decide +kernel
theorem d_M_distance_92 : decode b_M_distance 92 = .ok (.iadd, 1) := by decide +kernel
theorem d_M_distance_93 : decode b_M_distance 93 = .ok (.iconst 1, 1) := by decide +kernel
theorem d_M_distance_94 : decode b_M_distance 94 = .ok (.isub, 1) := by decide +kernel
theorem d_M_distance_95 : decode b_M_distance 95 = .ok (.baload, 1) := by decide +kernel
theorem d_M_distance_96 : decode b_M_distance 96 = .ok (.aload_n 0, 1) := by decide +kernel
theorem d_M_distance_97 : decode b_M_distance 97 = .ok (.getfield 13, 3) := by decide +kernel
theorem d_M_distance_100 : decode b_M_distance 100 = .ok (.bipush 24, 2) := by decide +kernel
theorem d_M_distance_102 : decode b_M_distance 102 = .ok (.iload_n 2, 1) := by decide +kernel
theorem d_M_distance_103 : decode b_M_distance 103 = .ok (.imul, 1) := by decide +kernel
theorem d_M_distance_104 : decode b_M_distance 104 = .ok (.iload 5, 2) := by decide +kernel
theorem d_M_distance_106 : decode b_M_distance 106 = .ok (.iadd, 1) := by decide +kernel
theorem d_M_distance_107 : decode b_M_distance 107 = .ok (.iconst 1, 1) := by decide +kernel
theorem d_M_distance_108 : decode b_M_distance 108 = .ok (.isub, 1) := by decide +kernel
theorem d_M_distance_109 : decode b_M_distance 109 = .ok (.baload, 1) := by decide +kernel
theorem d_M_distance_110 : decode b_M_distance 110 = .ok (.if_icmp .ne 7, 3) := by decide +kernel
theorem d_M_distance_113 : decode b_M_distance 113 = .ok (.iconst 0, 1) := by decide +kernel
theorem d_M_distance_114 : decode b_M_distance 114 = .ok (.goto 4, 3) := by decide +kernel
theorem d_M_distance_117 : decode b_M_distance 117 = .ok (.iconst 1, 1) := by decide +kernel
theorem d_M_distance_118 : decode b_M_distance 118 = .ok (.iadd, 1) := by decide +kernel
theorem d_M_distance_119 : decode b_M_distance 119 = .ok (.istore 6, 2) := by decide +kernel
theorem d_M_distance_121 : decode b_M_distance 121 = .ok (.aload_n 0, 1) := by decide +kernel
theorem d_M_distance_122 : decode b_M_distance 122 = .ok (.getfield 23, 3) := by decide +kernel
theorem d_M_distance_125 : decode b_M_distance 125 = .ok (.iload_n 3, 1) := by decide +kernel
theorem d_M_distance_126 : decode b_M_distance 126 = .ok (.iload 4, 2) := by decide +kernel
theorem d_M_distance_128 : decode b_M_distance 128 = .ok (.iconst 1, 1) := by decide +kernel
theorem d_M_distance_129 : decode b_M_distance 129 = .ok (.isub, 1) := by decide +kernel
theorem d_M_distance_130 : decode b_M_distance 130 = .ok (.imul, 1) := by decide +kernel
theorem d_M_distance_131 : decode b_M_distance 131 = .ok (.iload 5, 2) := by decide +kernel
theorem d_M_distance_133 : decode b_M_distance 133 = .ok (.iadd, 1) := by decide +kernel
theorem d_M_distance_134 : decode b_M_distance 134 = .ok (.iaload, 1) := by decide +kernel
theorem d_M_distance_135 : decode b_M_distance 135 = .ok (.iconst 1, 1) := by decide +kernel
theorem d_M_distance_136 : decode b_M_distance 136 = .ok (.iadd, 1) := by decide +kernel
theorem d_M_distance_137 : decode b_M_distance 137 = .ok (.iload 6, 2) := by decide +kernel
theorem d_M_distance_139 : decode b_M_distance 139 = .ok (.if_icmp .ge 21, 3) := by decide +kernel
theorem d_M_distance_142 : decode b_M_distance 142 = .ok (.aload_n 0, 1) := by decide +kernel
theorem d_M_distance_143 : decode b_M_distance 143 = .ok (.getfield 23, 3) := by decide +kernel
theorem d_M_distance_146 : decode b_M_distance 146 = .ok (.iload_n 3, 1) := by decide +kernel
theorem d_M_distance_147 : decode b_M_distance 147 = .ok (.iload 4, 2) := by decide +kernel
theorem d_M_distance_149 : decode b_M_distance 149 = .ok (.iconst 1, 1) := by decide +kernel
theorem d_M_distance_150 : decode b_M_distance 150 = .ok (.isub, 1) := by decide +kernel
theorem d_M_distance_151 : decode b_M_distance 151 = .ok (.imul, 1) := by decide +kernel
theorem d_M_distance_152 : decode b_M_distance 152 = .ok (.iload 5, 2) := by decide +kernel
theorem d_M_distance_154 : decode b_M_distance 154 = .ok (.iadd, 1) := by decide +kernel
theorem d_M_distance_155 : decode b_M_distance 155 = .ok (.iaload, 1) := by decide +kernel
theorem d_M_distance_156 : decode b_M_distance 156 = .ok (.iconst 1, 1) := by decide +kernel
theorem d_M_distance_157 : decode b_M_distance 157 = .ok (.iadd, 1) := by decide +kernel
theorem d_M_distance_158 : decode b_M_distance 158 = .ok (.istore 6, 2) := by decide +kernel
theorem d_M_distance_160 : decode b_M_distance 160 = .ok (.aload_n 0, 1) := by decide +kernel
theorem d_M_distance_161 : decode b_M_distance 161 = .ok (.getfield 23, 3) := by decide +kernel
theorem d_M_distance_164 : decode b_M_distance 164 = .ok (.iload_n 3, 1) := by decide +kernel
theorem d_M_distance_165 : decode b_M_distance 165 = .ok (.iload 4, 2) := by decide +kernel
theorem d_M_distance_167 : decode b_M_distance 167 = .ok (.imul, 1) := by decide +kernel
theorem d_M_distance_168 : decode b_M_distance 168 = .ok (.iload 5, 2) := by decide +kernel
theorem d_M_distance_170 : decode b_M_distance 170 = .ok (.iadd, 1) := by decide +kernel
theorem d_M_distance_171 : decode b_M_distance 171 = .ok (.iconst 1, 1) := by decide +kernel
theorem d_M_distance_172 : decode b_M_distance 172 = .ok (.isub, 1) := by decide +kernel
theorem d_M_distance_173 : decode b_M_distance 173 = .ok (.iaload, 1) := by decide +kernel
theorem d_M_distance_174 : decode b_M_distance 174 = .ok (.iconst 1, 1) := by decide +kernel
theorem d_M_distance_175 : decode b_M_distance 175 = .ok (.iadd, 1) := by decide +kernel
theorem d_M_distance_176 : decode b_M_distance 176 = .ok (.iload 6, 2) := by decide +kernel
theorem d_M_distance_178 : decode b_M_distance 178 = .ok (.if_icmp .ge 21, 3) := by decide +kernel
theorem d_M_distance_181 : decode b_M_distance 181 = .ok (.aload_n 0, 1) := by decide +kernel
theorem d_M_distance_182 : decode b_M_distance 182 = .ok (.getfield 23, 3) := by decide +kernel
theorem d_M_distance_185 : decode b_M_distance 185 = .ok (.iload_n 3, 1) := by decide +kernel
theorem d_M_distance_186 : decode b_M_distance 186 = .ok (.iload 4, 2) := by decide +kernel
theorem d_M_distance_188 : decode b_M_distance 188 = .ok (.imul, 1) := by decide +kernel
theorem d_M_distance_189 : decode b_M_distance 189 = .ok (.iload 5, 2) := by decide +kernel
theorem d_M_distance_191 : decode b_M_distance 191 = .ok (.iadd, 1) := by decide +kernel
theorem d_M_distance_192 : decode b_M_distance 192 = .ok (.iconst 1, 1) := by decide +kernel
theorem d_M_distance_193 : decode b_M_distance 193 = .ok (.isub, 1) := by decide +kernel
theorem d_M_distance_194 : decode b_M_distance 194 = .ok (.iaload, 1) := by decide +kernel
theorem d_M_distance_195 : decode b_M_distance 195 = .ok (.iconst 1, 1) := by decide +kernel
theorem d_M_distance_196 : decode b_M_distance 196 = .ok (.iadd, 1) := by decide +kernel
theorem d_M_distance_197 : decode b_M_distance 197 = .ok (.istore 6, 2) := by decide +kernel
theorem d_M_distance_199 : decode b_M_distance 199 = .ok (.aload_n 0, 1) := by decide +kernel
theorem d_M_distance_200 : decode b_M_distance 200 = .ok (.getfield 23, 3) := by decide +kernel
theorem d_M_distance_203 : decode b_M_distance 203 = .ok (.iload_n 3, 1) := by decide +kernel
theorem d_M_distance_204 : decode b_M_distance 204 = .ok (.iload 4, 2) := by decide +kernel
theorem d_M_distance_206 : decode b_M_distance 206 = .ok (.imul, 1) := by decide +kernel
theorem d_M_distance_207 : decode b_M_distance 207 = .ok (.iload 5, 2) := by decide +kernel
theorem d_M_distance_209 : decode b_M_distance 209 = .ok (.iadd, 1) := by decide +kernel
theorem d_M_distance_210 : decode b_M_distance 210 = .ok (.iload 6, 2) := by decide +kernel
theorem d_M_distance_212 : decode b_M_distance 212 = .ok (.iastore, 1) := by decide +kernel
theorem d_M_distance_213 : decode b_M_distance 213 = .ok (.iinc 5 1, 3) := by decide +kernel
theorem d_M_distance_216 : decode b_M_distance 216 = .ok (.goto (-196), 3) := by decide +kernel
theorem d_M_distance_219 : decode b_M_distance 219 = .ok (.iinc 4 1, 3) := by decide +kernel
theorem d_M_distance_222 : decode b_M_distance 222 = .ok (.goto (-216), 3) := by decide +kernel
theorem d_M_distance_225 : decode b_M_distance 225 = .ok (.aload_n 0, 1) := by decide +kernel
theorem d_M_distance_226 : decode b_M_distance 226 = .ok (.getfield 23, 3) := by decide +kernel
theorem d_M_distance_229 : decode b_M_distance 229 = .ok (.iload_n 3, 1) := by decide +kernel
theorem d_M_distance_230 : decode b_M_distance 230 = .ok (.aload_n 0, 1) := by decide +kernel
theorem d_M_distance_231 : decode b_M_distance 231 = .ok (.getfield 16, 3) := by decide +kernel
theorem d_M_distance_234 : decode b_M_distance 234 = .ok (.iload_n 1, 1) := by decide +kernel
theorem d_M_distance_235 : decode b_M_distance 235 = .ok (.iaload, 1) := by decide +kernel
theorem d_M_distance_236 : decode b_M_distance 236 = .ok (.imul, 1) := by decide +kernel
theorem d_M_distance_237 : decode b_M_distance 237 = .ok (.aload_n 0, 1) := by decide +kernel
theorem d_M_distance_238 : decode b_M_distance 238 = .ok (.getfield 16, 3) := by decide +kernel
theorem d_M_distance_241 : decode b_M_distance 241 = .ok (.iload_n 2, 1) := by decide +kernel
theorem d_M_distance_242 : decode b_M_distance 242 = .ok (.iaload, 1) := by decide +kernel
theorem d_M_distance_243 : decode b_M_distance 243 = .ok (.iadd, 1) := by decide +kernel
theorem d_M_distance_244 : decode b_M_distance 244 = .ok (.iaload, 1) := by decide +kernel
theorem d_M_distance_245 : decode b_M_distance 245 = .ok (.ireturn, 1) := by decide +kernel
theorem d_M_apart_0 : decode b_M_apart 0 = .ok (.aload_n 0, 1) := by decide +kernel
theorem d_M_apart_1 : decode b_M_apart 1 = .ok (.iload_n 1, 1) := by decide +kernel
theorem d_M_apart_2 : decode b_M_apart 2 = .ok (.invokevirtual 55, 3) := by decide +kernel
theorem d_M_apart_5 : decode b_M_apart 5 = .ok (.ifCond .ne 6, 3) := by decide +kernel
theorem d_M_apart_8 : decode b_M_apart 8 = .ok (.bipush (-2), 2) := by decide +kernel
theorem d_M_apart_10 : decode b_M_apart 10 = .ok (.ireturn, 1) := by decide +kernel
theorem d_M_apart_11 : decode b_M_apart 11 = .ok (.aload_n 0, 1) := by decide +kernel
theorem d_M_apart_12 : decode b_M_apart 12 = .ok (.invokevirtual 65, 3) := by decide +kernel
theorem d_M_apart_15 : decode b_M_apart 15 = .ok (.ifCond .ne 5, 3) := by decide +kernel
theorem d_M_apart_18 : decode b_M_apart 18 = .ok (.iconst (-1), 1) := by decide +kernel
theorem d_M_apart_19 : decode b_M_apart 19 = .ok (.ireturn, 1) := by decide +kernel
theorem d_M_apart_20 : decode b_M_apart 20 = .ok (.aload_n 0, 1) := by decide +kernel
theorem d_M_apart_21 : decode b_M_apart 21 = .ok (.sipush 150, 3) := by decide +kernel
theorem d_M_apart_24 : decode b_M_apart 24 = .ok (.iconst 1, 1) := by decide +kernel
theorem d_M_apart_25 : decode b_M_apart 25 = .ok (.invokevirtual 51, 3) := by decide +kernel
theorem d_M_apart_28 : decode b_M_apart 28 = .ok (.aload_n 0, 1) := by decide +kernel
theorem d_M_apart_29 : decode b_M_apart 29 = .ok (.iload_n 1, 1) := by decide +kernel
theorem d_M_apart_30 : decode b_M_apart 30 = .ok (.sipush 150, 3) := by decide +kernel
theorem d_M_apart_33 : decode b_M_apart 33 = .ok (.invokevirtual 69, 3) := by decide +kernel
theorem d_M_apart_36 : decode b_M_apart 36 = .ok (.ireturn, 1) := by decide +kernel
theorem d_M_nearest_0 : decode b_M_nearest 0 = .ok (.aload_n 0, 1) := by decide +kernel
theorem d_M_nearest_1 : decode b_M_nearest 1 = .ok (.invokevirtual 65, 3) := by decide +kernel
theorem d_M_nearest_4 : decode b_M_nearest 4 = .ok (.ifCond .ne 5, 3) := by decide +kernel
theorem d_M_nearest_7 : decode b_M_nearest 7 = .ok (.iconst (-1), 1) := by decide +kernel
theorem d_M_nearest_8 : decode b_M_nearest 8 = .ok (.ireturn, 1) := by decide +kernel
theorem d_M_nearest_9 : decode b_M_nearest 9 = .ok (.aload_n 0, 1) := by decide +kernel
theorem d_M_nearest_10 : decode b_M_nearest 10 = .ok (.sipush 150, 3) := by decide +kernel
theorem d_M_nearest_13 : decode b_M_nearest 13 = .ok (.iconst 1, 1) := by decide +kernel
theorem d_M_nearest_14 : decode b_M_nearest 14 = .ok (.invokevirtual 51, 3) := by decide +kernel
theorem d_M_nearest_17 : decode b_M_nearest 17 = .ok (.bipush (-2), 2) := by decide +kernel
theorem d_M_nearest_19 : decode b_M_nearest 19 = .ok (.istore_n 1, 1) := by decide +kernel
theorem d_M_nearest_20 : decode b_M_nearest 20 = .ok (.bipush 100, 2) := by decide +kernel
theorem d_M_nearest_22 : decode b_M_nearest 22 = .ok (.istore_n 2, 1) := by decide +kernel
theorem d_M_nearest_23 : decode b_M_nearest 23 = .ok (.iconst 0, 1) := by decide +kernel
theorem d_M_nearest_24 : decode b_M_nearest 24 = .ok (.istore_n 3, 1) := by decide +kernel
theorem d_M_nearest_25 : decode b_M_nearest 25 = .ok (.iload_n 3, 1) := by decide +kernel
theorem d_M_nearest_26 : decode b_M_nearest 26 = .ok (.aload_n 0, 1) := by decide +kernel
theorem d_M_nearest_27 : decode b_M_nearest 27 = .ok (.getfield 48, 3) := by decide +kernel
theorem d_M_nearest_30 : decode b_M_nearest 30 = .ok (.if_icmp .ge 33, 3) := by decide +kernel
theorem d_M_nearest_33 : decode b_M_nearest 33 = .ok (.aload_n 0, 1) := by decide +kernel
theorem d_M_nearest_34 : decode b_M_nearest 34 = .ok (.iload_n 3, 1) := by decide +kernel
theorem d_M_nearest_35 : decode b_M_nearest 35 = .ok (.sipush 150, 3) := by decide +kernel
theorem d_M_nearest_38 : decode b_M_nearest 38 = .ok (.invokevirtual 69, 3) := by decide +kernel
theorem d_M_nearest_41 : decode b_M_nearest 41 = .ok (.istore 4, 2) := by decide +kernel
theorem d_M_nearest_43 : decode b_M_nearest 43 = .ok (.iload 4, 2) := by decide +kernel
theorem d_M_nearest_45 : decode b_M_nearest 45 = .ok (.iload_n 2, 1) := by decide +kernel
theorem d_M_nearest_46 : decode b_M_nearest 46 = .ok (.if_icmp .lt 6, 3) := by decide +kernel
theorem d_M_nearest_49 : decode b_M_nearest 49 = .ok (.goto 8, 3) := by decide +kernel
theorem d_M_nearest_52 : decode b_M_nearest 52 = .ok (.iload_n 3, 1) := by decide +kernel
theorem d_M_nearest_53 : decode b_M_nearest 53 = .ok (.istore_n 1, 1) := by decide +kernel
theorem d_M_nearest_54 : decode b_M_nearest 54 = .ok (.iload 4, 2) := by decide +kernel
theorem d_M_nearest_56 : decode b_M_nearest 56 = .ok (.istore_n 2, 1) := by decide +kernel
theorem d_M_nearest_57 : decode b_M_nearest 57 = .ok (.iinc 3 1, 3) := by decide +kernel
theorem d_M_nearest_60 : decode b_M_nearest 60 = .ok (.goto (-35), 3) := by decide +kernel
theorem d_M_nearest_63 : decode b_M_nearest 63 = .ok (.iload_n 1, 1) := by decide +kernel
theorem d_M_nearest_64 : decode b_M_nearest 64 = .ok (.ireturn, 1) := by decide +kernel
theorem d_M_plain_0 : decode b_M_plain 0 = .ok (.aload_n 0, 1) := by decide +kernel
theorem d_M_plain_1 : decode b_M_plain 1 = .ok (.invokevirtual 65, 3) := by decide +kernel
theorem d_M_plain_4 : decode b_M_plain 4 = .ok (.ifCond .eq 13, 3) := by decide +kernel
theorem d_M_plain_7 : decode b_M_plain 7 = .ok (.aload_n 0, 1) := by decide +kernel
theorem d_M_plain_8 : decode b_M_plain 8 = .ok (.getfield 48, 3) := by decide +kernel
theorem d_M_plain_11 : decode b_M_plain 11 = .ok (.sipush 150, 3) := by decide +kernel
theorem d_M_plain_14 : decode b_M_plain 14 = .ok (.if_icmp .ne 5, 3) := by decide +kernel
theorem d_M_plain_17 : decode b_M_plain 17 = .ok (.iconst (-1), 1) := by decide +kernel
theorem d_M_plain_18 : decode b_M_plain 18 = .ok (.ireturn, 1) := by decide +kernel
theorem d_M_plain_19 : decode b_M_plain 19 = .ok (.aload_n 0, 1) := by decide +kernel
theorem d_M_plain_20 : decode b_M_plain 20 = .ok (.aload_n 0, 1) := by decide +kernel
theorem d_M_plain_21 : decode b_M_plain 21 = .ok (.getfield 48, 3) := by decide +kernel
theorem d_M_plain_24 : decode b_M_plain 24 = .ok (.iconst 0, 1) := by decide +kernel
theorem d_M_plain_25 : decode b_M_plain 25 = .ok (.invokevirtual 51, 3) := by decide +kernel
theorem d_M_plain_28 : decode b_M_plain 28 = .ok (.aload_n 0, 1) := by decide +kernel
theorem d_M_plain_29 : decode b_M_plain 29 = .ok (.dup, 1) := by decide +kernel
theorem d_M_plain_30 : decode b_M_plain 30 = .ok (.getfield 48, 3) := by decide +kernel
theorem d_M_plain_33 : decode b_M_plain 33 = .ok (.iconst 1, 1) := by decide +kernel
theorem d_M_plain_34 : decode b_M_plain 34 = .ok (.iadd, 1) := by decide +kernel
theorem d_M_plain_35 : decode b_M_plain 35 = .ok (.putfield 48, 3) := by decide +kernel
theorem d_M_plain_38 : decode b_M_plain 38 = .ok (.aload_n 0, 1) := by decide +kernel
theorem d_M_plain_39 : decode b_M_plain 39 = .ok (.getfield 48, 3) := by decide +kernel
theorem d_M_plain_42 : decode b_M_plain 42 = .ok (.ireturn, 1) := by decide +kernel
theorem d_L_law_0 : decode code 0 = .ok (.new 7, 3) := by decide +kernel
theorem d_L_law_3 : decode code 3 = .ok (.dup, 1) := by decide +kernel
theorem d_L_law_4 : decode code 4 = .ok (.invokespecial 9, 3) := by decide +kernel
theorem d_L_law_7 : decode code 7 = .ok (.astore_n 1, 1) := by decide +kernel
theorem d_L_law_8 : decode code 8 = .ok (.new 10, 3) := by decide +kernel
theorem d_L_law_11 : decode code 11 = .ok (.dup, 1) := by decide +kernel
theorem d_L_law_12 : decode code 12 = .ok (.invokespecial 12, 3) := by decide +kernel
theorem d_L_law_15 : decode code 15 = .ok (.astore_n 2, 1) := by decide +kernel
theorem d_L_law_16 : decode code 16 = .ok (.iconst 0, 1) := by decide +kernel
theorem d_L_law_17 : decode code 17 = .ok (.istore_n 3, 1) := by decide +kernel
theorem d_L_law_18 : decode code 18 = .ok (.iload_n 3, 1) := by decide +kernel
theorem d_L_law_19 : decode code 19 = .ok (.aload_n 0, 1) := by decide +kernel
theorem d_L_law_20 : decode code 20 = .ok (.arraylength, 1) := by decide +kernel
theorem d_L_law_21 : decode code 21 = .ok (.bipush 6, 2) := by decide +kernel
theorem d_L_law_23 : decode code 23 = .ok (.isub, 1) := by decide +kernel
theorem d_L_law_24 : decode code 24 = .ok (.if_icmp .gt 320, 3) := by decide +kernel
theorem d_L_law_27 : decode code 27 = .ok (.aload_n 0, 1) := by decide +kernel
theorem d_L_law_28 : decode code 28 = .ok (.iload_n 3, 1) := by decide +kernel
theorem d_L_law_29 : decode code 29 = .ok (.iaload, 1) := by decide +kernel
theorem d_L_law_30 : decode code 30 = .ok (.bipush 15, 2) := by decide +kernel
theorem d_L_law_32 : decode code 32 = .ok (.iand, 1) := by decide +kernel
theorem d_L_law_33 : decode code 33 = .ok (.tableswitch 305 0 9 #[55, 118, 141, 154, 187, 200, 223, 256, 279, 292], 55) := by decide +kernel
theorem d_L_law_88 : decode code 88 = .ok (.aload_n 1, 1) := by decide +kernel
theorem d_L_law_89 : decode code 89 = .ok (.aload_n 0, 1) := by decide +kernel
theorem d_L_law_90 : decode code 90 = .ok (.iload_n 3, 1) := by decide +kernel
theorem d_L_law_91 : decode code 91 = .ok (.iconst 1, 1) := by decide +kernel
theorem d_L_law_92 : decode code 92 = .ok (.iadd, 1) := by decide +kernel
theorem d_L_law_93 : decode code 93 = .ok (.iaload, 1) := by decide +kernel
theorem d_L_law_94 : decode code 94 = .ok (.aload_n 0, 1) := by decide +kernel
theorem d_L_law_95 : decode code 95 = .ok (.iload_n 3, 1) := by decide +kernel
theorem d_L_law_96 : decode code 96 = .ok (.iconst 2, 1) := by decide +kernel
theorem d_L_law_97 : decode code 97 = .ok (.iadd, 1) := by decide +kernel
theorem d_L_law_98 : decode code 98 = .ok (.iaload, 1) := by decide +kernel
theorem d_L_law_99 : decode code 99 = .ok (.aload_n 0, 1) := by decide +kernel
theorem d_L_law_100 : decode code 100 = .ok (.iload_n 3, 1) := by decide +kernel
theorem d_L_law_101 : decode code 101 = .ok (.iconst 3, 1) := by decide +kernel
theorem d_L_law_102 : decode code 102 = .ok (.iadd, 1) := by decide +kernel
theorem d_L_law_103 : decode code 103 = .ok (.iaload, 1) := by decide +kernel
theorem d_L_law_104 : decode code 104 = .ok (.aload_n 0, 1) := by decide +kernel
theorem d_L_law_105 : decode code 105 = .ok (.iload_n 3, 1) := by decide +kernel
theorem d_L_law_106 : decode code 106 = .ok (.iconst 4, 1) := by decide +kernel
theorem d_L_law_107 : decode code 107 = .ok (.iadd, 1) := by decide +kernel
theorem d_L_law_108 : decode code 108 = .ok (.iaload, 1) := by decide +kernel
theorem d_L_law_109 : decode code 109 = .ok (.aload_n 0, 1) := by decide +kernel
theorem d_L_law_110 : decode code 110 = .ok (.iload_n 3, 1) := by decide +kernel
theorem d_L_law_111 : decode code 111 = .ok (.iconst 5, 1) := by decide +kernel
theorem d_L_law_112 : decode code 112 = .ok (.iadd, 1) := by decide +kernel
theorem d_L_law_113 : decode code 113 = .ok (.iaload, 1) := by decide +kernel
theorem d_L_law_114 : decode code 114 = .ok (.invokevirtual 13, 3) := by decide +kernel
theorem d_L_law_117 : decode code 117 = .ok (.aload_n 2, 1) := by decide +kernel
theorem d_L_law_118 : decode code 118 = .ok (.aload_n 0, 1) := by decide +kernel
theorem d_L_law_119 : decode code 119 = .ok (.iload_n 3, 1) := by decide +kernel
theorem d_L_law_120 : decode code 120 = .ok (.iconst 1, 1) := by decide +kernel
theorem d_L_law_121 : decode code 121 = .ok (.iadd, 1) := by decide +kernel
theorem d_L_law_122 : decode code 122 = .ok (.iaload, 1) := by decide +kernel
theorem d_L_law_123 : decode code 123 = .ok (.aload_n 0, 1) := by decide +kernel
theorem d_L_law_124 : decode code 124 = .ok (.iload_n 3, 1) := by decide +kernel
theorem d_L_law_125 : decode code 125 = .ok (.iconst 2, 1) := by decide +kernel
theorem d_L_law_126 : decode code 126 = .ok (.iadd, 1) := by decide +kernel
theorem d_L_law_127 : decode code 127 = .ok (.iaload, 1) := by decide +kernel
theorem d_L_law_128 : decode code 128 = .ok (.aload_n 0, 1) := by decide +kernel
theorem d_L_law_129 : decode code 129 = .ok (.iload_n 3, 1) := by decide +kernel
theorem d_L_law_130 : decode code 130 = .ok (.iconst 3, 1) := by decide +kernel
theorem d_L_law_131 : decode code 131 = .ok (.iadd, 1) := by decide +kernel
theorem d_L_law_132 : decode code 132 = .ok (.iaload, 1) := by decide +kernel
theorem d_L_law_133 : decode code 133 = .ok (.aload_n 0, 1) := by decide +kernel
theorem d_L_law_134 : decode code 134 = .ok (.iload_n 3, 1) := by decide +kernel
theorem d_L_law_135 : decode code 135 = .ok (.iconst 4, 1) := by decide +kernel
theorem d_L_law_136 : decode code 136 = .ok (.iadd, 1) := by decide +kernel
theorem d_L_law_137 : decode code 137 = .ok (.iaload, 1) := by decide +kernel
theorem d_L_law_138 : decode code 138 = .ok (.aload_n 0, 1) := by decide +kernel
theorem d_L_law_139 : decode code 139 = .ok (.iload_n 3, 1) := by decide +kernel
theorem d_L_law_140 : decode code 140 = .ok (.iconst 5, 1) := by decide +kernel
theorem d_L_law_141 : decode code 141 = .ok (.iadd, 1) := by decide +kernel
theorem d_L_law_142 : decode code 142 = .ok (.iaload, 1) := by decide +kernel
theorem d_L_law_143 : decode code 143 = .ok (.invokevirtual 17, 3) := by decide +kernel
theorem d_L_law_146 : decode code 146 = .ok (.if_icmp .eq 192, 3) := by decide +kernel
theorem d_L_law_149 : decode code 149 = .ok (.iconst 0, 1) := by decide +kernel
theorem d_L_law_150 : decode code 150 = .ok (.ireturn, 1) := by decide +kernel
theorem d_L_law_151 : decode code 151 = .ok (.aload_n 1, 1) := by decide +kernel
theorem d_L_law_152 : decode code 152 = .ok (.aload_n 0, 1) := by decide +kernel
theorem d_L_law_153 : decode code 153 = .ok (.iload_n 3, 1) := by decide +kernel
theorem d_L_law_154 : decode code 154 = .ok (.iconst 1, 1) := by decide +kernel
theorem d_L_law_155 : decode code 155 = .ok (.iadd, 1) := by decide +kernel
theorem d_L_law_156 : decode code 156 = .ok (.iaload, 1) := by decide +kernel
theorem d_L_law_157 : decode code 157 = .ok (.invokevirtual 18, 3) := by decide +kernel
theorem d_L_law_160 : decode code 160 = .ok (.aload_n 2, 1) := by decide +kernel
theorem d_L_law_161 : decode code 161 = .ok (.aload_n 0, 1) := by decide +kernel
theorem d_L_law_162 : decode code 162 = .ok (.iload_n 3, 1) := by decide +kernel
theorem d_L_law_163 : decode code 163 = .ok (.iconst 1, 1) := by decide +kernel
theorem d_L_law_164 : decode code 164 = .ok (.iadd, 1) := by decide +kernel
theorem d_L_law_165 : decode code 165 = .ok (.iaload, 1) := by decide +kernel
theorem d_L_law_166 : decode code 166 = .ok (.invokevirtual 22, 3) := by decide +kernel
theorem d_L_law_169 : decode code 169 = .ok (.if_icmp .eq 169, 3) := by decide +kernel
theorem d_L_law_172 : decode code 172 = .ok (.iconst 0, 1) := by decide +kernel
theorem d_L_law_173 : decode code 173 = .ok (.ireturn, 1) := by decide +kernel
theorem d_L_law_174 : decode code 174 = .ok (.aload_n 1, 1) := by decide +kernel
theorem d_L_law_175 : decode code 175 = .ok (.invokevirtual 23, 3) := by decide +kernel
theorem d_L_law_178 : decode code 178 = .ok (.aload_n 2, 1) := by decide +kernel
theorem d_L_law_179 : decode code 179 = .ok (.invokevirtual 27, 3) := by decide +kernel
theorem d_L_law_182 : decode code 182 = .ok (.if_icmp .eq 156, 3) := by decide +kernel
theorem d_L_law_185 : decode code 185 = .ok (.iconst 0, 1) := by decide +kernel
theorem d_L_law_186 : decode code 186 = .ok (.ireturn, 1) := by decide +kernel
theorem d_L_law_187 : decode code 187 = .ok (.aload_n 1, 1) := by decide +kernel
theorem d_L_law_188 : decode code 188 = .ok (.aload_n 0, 1) := by decide +kernel
theorem d_L_law_189 : decode code 189 = .ok (.iload_n 3, 1) := by decide +kernel
theorem d_L_law_190 : decode code 190 = .ok (.iconst 1, 1) := by decide +kernel
theorem d_L_law_191 : decode code 191 = .ok (.iadd, 1) := by decide +kernel
theorem d_L_law_192 : decode code 192 = .ok (.iaload, 1) := by decide +kernel
theorem d_L_law_193 : decode code 193 = .ok (.aload_n 0, 1) := by decide +kernel
theorem d_L_law_194 : decode code 194 = .ok (.iload_n 3, 1) := by decide +kernel
theorem d_L_law_195 : decode code 195 = .ok (.iconst 2, 1) := by decide +kernel
theorem d_L_law_196 : decode code 196 = .ok (.iadd, 1) := by decide +kernel
theorem d_L_law_197 : decode code 197 = .ok (.iaload, 1) := by decide +kernel
theorem d_L_law_198 : decode code 198 = .ok (.invokevirtual 28, 3) := by decide +kernel
theorem d_L_law_201 : decode code 201 = .ok (.aload_n 2, 1) := by decide +kernel
theorem d_L_law_202 : decode code 202 = .ok (.aload_n 0, 1) := by decide +kernel
theorem d_L_law_203 : decode code 203 = .ok (.iload_n 3, 1) := by decide +kernel
theorem d_L_law_204 : decode code 204 = .ok (.iconst 1, 1) := by decide +kernel
theorem d_L_law_205 : decode code 205 = .ok (.iadd, 1) := by decide +kernel
theorem d_L_law_206 : decode code 206 = .ok (.iaload, 1) := by decide +kernel
theorem d_L_law_207 : decode code 207 = .ok (.aload_n 0, 1) := by decide +kernel
theorem d_L_law_208 : decode code 208 = .ok (.iload_n 3, 1) := by decide +kernel
theorem d_L_law_209 : decode code 209 = .ok (.iconst 2, 1) := by decide +kernel
theorem d_L_law_210 : decode code 210 = .ok (.iadd, 1) := by decide +kernel
theorem d_L_law_211 : decode code 211 = .ok (.iaload, 1) := by decide +kernel
theorem d_L_law_212 : decode code 212 = .ok (.invokevirtual 32, 3) := by decide +kernel
theorem d_L_law_215 : decode code 215 = .ok (.if_icmp .eq 123, 3) := by decide +kernel
theorem d_L_law_218 : decode code 218 = .ok (.iconst 0, 1) := by decide +kernel
theorem d_L_law_219 : decode code 219 = .ok (.ireturn, 1) := by decide +kernel
theorem d_L_law_220 : decode code 220 = .ok (.aload_n 1, 1) := by decide +kernel
theorem d_L_law_221 : decode code 221 = .ok (.invokevirtual 33, 3) := by decide +kernel
theorem d_L_law_224 : decode code 224 = .ok (.aload_n 2, 1) := by decide +kernel
theorem d_L_law_225 : decode code 225 = .ok (.invokevirtual 36, 3) := by decide +kernel
theorem d_L_law_228 : decode code 228 = .ok (.if_icmp .eq 110, 3) := by decide +kernel
theorem d_L_law_231 : decode code 231 = .ok (.iconst 0, 1) := by decide +kernel
theorem d_L_law_232 : decode code 232 = .ok (.ireturn, 1) := by decide +kernel
theorem d_L_law_233 : decode code 233 = .ok (.aload_n 1, 1) := by decide +kernel
theorem d_L_law_234 : decode code 234 = .ok (.aload_n 0, 1) := by decide +kernel
theorem d_L_law_235 : decode code 235 = .ok (.iload_n 3, 1) := by decide +kernel
theorem d_L_law_236 : decode code 236 = .ok (.iconst 1, 1) := by decide +kernel
theorem d_L_law_237 : decode code 237 = .ok (.iadd, 1) := by decide +kernel
theorem d_L_law_238 : decode code 238 = .ok (.iaload, 1) := by decide +kernel
theorem d_L_law_239 : decode code 239 = .ok (.invokevirtual 37, 3) := by decide +kernel
theorem d_L_law_242 : decode code 242 = .ok (.aload_n 2, 1) := by decide +kernel
theorem d_L_law_243 : decode code 243 = .ok (.aload_n 0, 1) := by decide +kernel
theorem d_L_law_244 : decode code 244 = .ok (.iload_n 3, 1) := by decide +kernel
theorem d_L_law_245 : decode code 245 = .ok (.iconst 1, 1) := by decide +kernel
theorem d_L_law_246 : decode code 246 = .ok (.iadd, 1) := by decide +kernel
theorem d_L_law_247 : decode code 247 = .ok (.iaload, 1) := by decide +kernel
theorem d_L_law_248 : decode code 248 = .ok (.invokevirtual 40, 3) := by decide +kernel
theorem d_L_law_251 : decode code 251 = .ok (.if_icmp .eq 87, 3) := by decide +kernel
theorem d_L_law_254 : decode code 254 = .ok (.iconst 0, 1) := by decide +kernel
theorem d_L_law_255 : decode code 255 = .ok (.ireturn, 1) := by decide +kernel
theorem d_L_law_256 : decode code 256 = .ok (.aload_n 1, 1) := by decide +kernel
theorem d_L_law_257 : decode code 257 = .ok (.aload_n 0, 1) := by decide +kernel
theorem d_L_law_258 : decode code 258 = .ok (.iload_n 3, 1) := by decide +kernel
theorem d_L_law_259 : decode code 259 = .ok (.iconst 1, 1) := by decide +kernel
theorem d_L_law_260 : decode code 260 = .ok (.iadd, 1) := by decide +kernel
theorem d_L_law_261 : decode code 261 = .ok (.iaload, 1) := by decide +kernel
theorem d_L_law_262 : decode code 262 = .ok (.aload_n 0, 1) := by decide +kernel
theorem d_L_law_263 : decode code 263 = .ok (.iload_n 3, 1) := by decide +kernel
theorem d_L_law_264 : decode code 264 = .ok (.iconst 2, 1) := by decide +kernel
theorem d_L_law_265 : decode code 265 = .ok (.iadd, 1) := by decide +kernel
theorem d_L_law_266 : decode code 266 = .ok (.iaload, 1) := by decide +kernel
theorem d_L_law_267 : decode code 267 = .ok (.invokevirtual 41, 3) := by decide +kernel
theorem d_L_law_270 : decode code 270 = .ok (.aload_n 2, 1) := by decide +kernel
theorem d_L_law_271 : decode code 271 = .ok (.aload_n 0, 1) := by decide +kernel
theorem d_L_law_272 : decode code 272 = .ok (.iload_n 3, 1) := by decide +kernel
theorem d_L_law_273 : decode code 273 = .ok (.iconst 1, 1) := by decide +kernel
theorem d_L_law_274 : decode code 274 = .ok (.iadd, 1) := by decide +kernel
theorem d_L_law_275 : decode code 275 = .ok (.iaload, 1) := by decide +kernel
theorem d_L_law_276 : decode code 276 = .ok (.aload_n 0, 1) := by decide +kernel
theorem d_L_law_277 : decode code 277 = .ok (.iload_n 3, 1) := by decide +kernel
theorem d_L_law_278 : decode code 278 = .ok (.iconst 2, 1) := by decide +kernel
theorem d_L_law_279 : decode code 279 = .ok (.iadd, 1) := by decide +kernel
theorem d_L_law_280 : decode code 280 = .ok (.iaload, 1) := by decide +kernel
theorem d_L_law_281 : decode code 281 = .ok (.invokevirtual 44, 3) := by decide +kernel
theorem d_L_law_284 : decode code 284 = .ok (.if_icmp .eq 54, 3) := by decide +kernel
theorem d_L_law_287 : decode code 287 = .ok (.iconst 0, 1) := by decide +kernel
theorem d_L_law_288 : decode code 288 = .ok (.ireturn, 1) := by decide +kernel
theorem d_L_law_289 : decode code 289 = .ok (.aload_n 1, 1) := by decide +kernel
theorem d_L_law_290 : decode code 290 = .ok (.aload_n 0, 1) := by decide +kernel
theorem d_L_law_291 : decode code 291 = .ok (.iload_n 3, 1) := by decide +kernel
theorem d_L_law_292 : decode code 292 = .ok (.iconst 1, 1) := by decide +kernel
theorem d_L_law_293 : decode code 293 = .ok (.iadd, 1) := by decide +kernel
theorem d_L_law_294 : decode code 294 = .ok (.iaload, 1) := by decide +kernel
theorem d_L_law_295 : decode code 295 = .ok (.invokevirtual 45, 3) := by decide +kernel
theorem d_L_law_298 : decode code 298 = .ok (.aload_n 2, 1) := by decide +kernel
theorem d_L_law_299 : decode code 299 = .ok (.aload_n 0, 1) := by decide +kernel
theorem d_L_law_300 : decode code 300 = .ok (.iload_n 3, 1) := by decide +kernel
theorem d_L_law_301 : decode code 301 = .ok (.iconst 1, 1) := by decide +kernel
theorem d_L_law_302 : decode code 302 = .ok (.iadd, 1) := by decide +kernel
theorem d_L_law_303 : decode code 303 = .ok (.iaload, 1) := by decide +kernel
theorem d_L_law_304 : decode code 304 = .ok (.invokevirtual 48, 3) := by decide +kernel
theorem d_L_law_307 : decode code 307 = .ok (.if_icmp .eq 31, 3) := by decide +kernel
theorem d_L_law_310 : decode code 310 = .ok (.iconst 0, 1) := by decide +kernel
theorem d_L_law_311 : decode code 311 = .ok (.ireturn, 1) := by decide +kernel
theorem d_L_law_312 : decode code 312 = .ok (.aload_n 1, 1) := by decide +kernel
theorem d_L_law_313 : decode code 313 = .ok (.invokevirtual 49, 3) := by decide +kernel
theorem d_L_law_316 : decode code 316 = .ok (.aload_n 2, 1) := by decide +kernel
theorem d_L_law_317 : decode code 317 = .ok (.invokevirtual 52, 3) := by decide +kernel
theorem d_L_law_320 : decode code 320 = .ok (.if_icmp .eq 18, 3) := by decide +kernel
theorem d_L_law_323 : decode code 323 = .ok (.iconst 0, 1) := by decide +kernel
theorem d_L_law_324 : decode code 324 = .ok (.ireturn, 1) := by decide +kernel
theorem d_L_law_325 : decode code 325 = .ok (.aload_n 1, 1) := by decide +kernel
theorem d_L_law_326 : decode code 326 = .ok (.invokevirtual 53, 3) := by decide +kernel
theorem d_L_law_329 : decode code 329 = .ok (.aload_n 2, 1) := by decide +kernel
theorem d_L_law_330 : decode code 330 = .ok (.invokevirtual 56, 3) := by decide +kernel
theorem d_L_law_333 : decode code 333 = .ok (.if_icmp .eq 5, 3) := by decide +kernel
theorem d_L_law_336 : decode code 336 = .ok (.iconst 0, 1) := by decide +kernel
theorem d_L_law_337 : decode code 337 = .ok (.ireturn, 1) := by decide +kernel
theorem d_L_law_338 : decode code 338 = .ok (.iinc 3 6, 3) := by decide +kernel
theorem d_L_law_341 : decode code 341 = .ok (.goto (-323), 3) := by decide +kernel
theorem d_L_law_344 : decode code 344 = .ok (.iconst 1, 1) := by decide +kernel
theorem d_L_law_345 : decode code 345 = .ok (.ireturn, 1) := by decide +kernel
end
section
/-! pure words: bytes, words, terms, their order and distance -/
def by_ok (b : Int32) : Prop := b.toInt8.toInt32 = b
def sm (b : Int32) : Int32 := if 65 ≤ b ∧ b ≤ 90 then b + 32 else b
def sgn (b : Int32) : Bool := decide ((48 ≤ b ∧ b ≤ 57) ∨ (97 ≤ b ∧ b ≤ 122))
def ltr (b : Int32) : Bool := decide ((48 ≤ b ∧ b ≤ 57) ∨ (65 ≤ b ∧ b ≤ 90) ∨ (97 ≤ b ∧ b ≤ 122))
def bI (x : Bool) : Int32 := if x = true then 1 else 0
theorem by_8 (z : Int32) : by_ok z.toInt8.toInt32 := by
  unfold by_ok
  simp
theorem by_all {P : Int32 → Prop} (h : ∀ n : Nat, n < 256 → P (Int8.ofNat n).toInt32) {b : Int32} (hb : by_ok b) : P b := by
  have e : Int8.ofNat b.toInt8.toBitVec.toNat = b.toInt8 := by
    apply Int8.toBitVec_inj.mp
    apply BitVec.eq_of_toNat_eq
    show (BitVec.ofNat 8 _).toNat = _
    rw [BitVec.toNat_ofNat]
    exact Nat.mod_eq_of_lt b.toInt8.toBitVec.isLt
  have k := h b.toInt8.toBitVec.toNat b.toInt8.toBitVec.isLt
  rw [e, hb] at k
  exact k
theorem by_sm {b : Int32} (hb : by_ok b) : by_ok (sm b) := by_all (P := fun b => (sm b).toInt8.toInt32 = sm b) (by decide +kernel) hb
theorem sgn_sm {b : Int32} (hb : by_ok b) : sgn (sm b) = ltr b := by_all (P := fun b => sgn (sm b) = ltr b) (by decide +kernel) hb
theorem sm_up {b : Int32} (hb : by_ok b) (h1 : 65 ≤ b) (h2 : b ≤ 90) : (b - 65 + 97).toInt8.toInt32 = sm b := by_all (P := fun b => 65 ≤ b → b ≤ 90 → (b - 65 + 97).toInt8.toInt32 = sm b) (by decide +kernel) hb h1 h2
theorem sm_up2 {b : Int32} (hb : by_ok b) (h1 : 65 ≤ b) (h2 : b ≤ 90) : (b + 32).toInt8.toInt32 = sm b := by_all (P := fun b => 65 ≤ b → b ≤ 90 → (b + 32).toInt8.toInt32 = sm b) (by decide +kernel) hb h1 h2
theorem sm_no {b : Int32} (h : ¬ (65 ≤ b ∧ b ≤ 90)) : sm b = b := if_neg h
theorem by_fit {b : Int32} (hb : by_ok b) : fits .byte (.int b) = true := by
  have h := pk_fb b
  rw [hb] at h
  exact h
theorem by_nar {b : Int32} (hb : by_ok b) : narrow .byte (.int b) = .int b := by
  have h := pk_nb b
  rw [hb] at h
  exact h
/-! bits (s_l, s_u, b_ushr, b_sshr of the pasted family) -/
def bt (x : Int32) (i : Nat) : Bool := x.toBitVec.getLsbD i
theorem s_l : ∀ n, n < 32 → ((nI n &&& 31).toBitVec.smod 32).toNat = n := by decide +kernel
theorem s_u : ∀ n, n < 32 → (((nI n).toUInt32 &&& Int32.toUInt32 31).toBitVec % 32).toNat = n := by decide +kernel
theorem b_ushr (n : Nat) (hn : n < 32) (x : Int32) (i : Nat) : bt ((x.toUInt32 >>> ((nI n).toUInt32 &&& Int32.toUInt32 31)).toInt32) i = bt x (n + i) := by
  show (x.toUInt32 >>> ((nI n).toUInt32 &&& Int32.toUInt32 31)).toBitVec.getLsbD i = x.toUInt32.toBitVec.getLsbD (n + i)
  rw [UInt32.toBitVec_shiftRight]
  show (x.toUInt32.toBitVec >>> (((nI n).toUInt32 &&& Int32.toUInt32 31).toBitVec % 32).toNat).getLsbD i = _
  rw [s_u n hn, BitVec.getLsbD_ushiftRight]
theorem b_sshr (n : Nat) (hn : n < 32) (x : Int32) {i : Nat} (hi : i < 32) : bt (x >>> (nI n &&& 31)) i = if n + i < 32 then bt x (n + i) else bt x 31 := by
  unfold bt
  rw [Int32.toBitVec_shiftRight]
  show (x.toBitVec.sshiftRight ((nI n &&& 31).toBitVec.smod 32).toNat).getLsbD i = _
  rw [s_l n hn, BitVec.getLsbD_sshiftRight, BitVec.msb_eq_getLsbD_last]
  simp [hi]
/-- the byte that lies n bits up -/
def bq (w : Int32) (n : Nat) : Int32 := (w >>> (nI n &&& 31)).toInt8.toInt32
theorem bq_ok (w : Int32) (n : Nat) : by_ok (bq w n) := by_8 _
theorem bq_u (w : Int32) (n : Nat) (hn : n + 8 ≤ 32) : ((w.toUInt32 >>> ((nI n).toUInt32 &&& Int32.toUInt32 31)).toInt32).toInt8.toInt32 = bq w n := by
  unfold bq
  congr 1
  apply Int8.toBitVec_inj.mp
  apply BitVec.eq_of_getLsbD_eq
  intro i hi
  have h1 := b_ushr n (by omega) w i
  have h2 := b_sshr n (by omega) w (i := i) (by omega)
  rw [if_pos (by omega)] at h2
  have h3 := h1.trans h2.symm
  unfold bt at h3
  rw [Int32.toBitVec_toInt8, Int32.toBitVec_toInt8, BitVec.getLsbD_signExtend, BitVec.getLsbD_signExtend, if_pos (by omega), if_pos (by omega), h3]
/-- four bytes and twenty onto a tape -/
def p4 (f : Int32 → Int32) (t : Nat → Int32) (n : Nat) (w : Int32) : Nat → Int32 := upd (upd (upd (upd t n (f (bq w 24))) (n + 1) (f (bq w 16))) (n + 1 + 1) (f (bq w 8))) (n + 1 + 1 + 1) (f (bq w 0))
def p20 (f : Int32 → Int32) (t : Nat → Int32) (n : Nat) (a b c d e : Int32) : Nat → Int32 := p4 f (p4 f (p4 f (p4 f (p4 f t n a) (n + 4) b) (n + 4 + 4) c) (n + 4 + 4 + 4) d) (n + 4 + 4 + 4 + 4) e
/-- what two tapes have in common up to n -/
def tpr (x t : Nat → Int32) (n : Nat) : Prop := ∀ i, i < n → by_ok (t i) ∧ x i = sm (t i)
theorem upd_rel {x t : Nat → Int32} {n : Nat} {v : Int32} (h : tpr x t n) (hv : by_ok v) : tpr (upd x n (sm v)) (upd t n v) (n + 1) := by
  intro i hi
  by_cases e : i = n
  · subst e
    rw [pk_us, pk_us]
    exact ⟨hv, rfl⟩
  · rw [pk_un e, pk_un e]
    exact h i (by omega)
theorem p4_rel {x t : Nat → Int32} {n : Nat} (w : Int32) (h : tpr x t n) : tpr (p4 sm x n w) (p4 (fun b => b) t n w) (n + 4) := by
  unfold p4
  exact upd_rel (upd_rel (upd_rel (upd_rel h (bq_ok _ _)) (bq_ok _ _)) (bq_ok _ _)) (bq_ok _ _)
theorem p20_rel {x t : Nat → Int32} {n : Nat} (a b c d e : Int32) (h : tpr x t n) : tpr (p20 sm x n a b c d e) (p20 (fun b => b) t n a b c d e) (n + 20) := by
  unfold p20
  exact p4_rel e (p4_rel d (p4_rel c (p4_rel b (p4_rel a h))))
/-! terms -/
abbrev Tm : Type := Nat × (Nat → Int32)
def ies (w : Nat → Int32) (n : Nat) : Bool := decide (5 ≤ n ∧ w (n - 1) = 115 ∧ w (n - 2) = 101 ∧ w (n - 3) = 105)
def los (w : Nat → Int32) (n : Nat) : Bool := decide (4 ≤ n ∧ w (n - 1) = 115 ∧ w (n - 2) ≠ 115 ∧ w (n - 2) ≠ 117)
def pln (w : Nat → Int32) (n : Nat) : Tm := (min n 24, w)
def stm (w : Nat → Int32) (n : Nat) : Tm := if ies w n = true then pln (fun i => if i = n - 3 then 121 else w i) (n - 2) else if los w n = true then pln w (n - 1) else pln w n
def tat (sg ln : Nat → Int32) (k : Nat) (T : Tm) : Prop := T.1 ≤ 24 ∧ ln k = nI T.1 ∧ ∀ i, i < T.1 → sg (24 * k + i) = T.2 i
def tok (ts : List Tm) (sg ln : Nat → Int32) : Prop := ∀ (k : Nat) (T : Tm), ts[k]? = some T → tat sg ln k T
/-- a term has been written into slot k -/
def wrt (sg ln sg' ln' : Nat → Int32) (k : Nat) (T : Tm) : Prop := T.1 ≤ 24 ∧ ln' = upd ln k (nI T.1) ∧ (∀ i, i < T.1 → sg' (24 * k + i) = T.2 i) ∧ ∀ j, (j < 24 * k ∨ 24 * k + 24 ≤ j) → sg' j = sg j
theorem wrt_at {sg ln sg' ln' : Nat → Int32} {k : Nat} {T : Tm} (h : wrt sg ln sg' ln' k T) : tat sg' ln' k T := by
  obtain ⟨h1, h2, h3, -⟩ := h
  exact ⟨h1, by rw [h2, pk_us], h3⟩
theorem wrt_keep {sg ln sg' ln' : Nat → Int32} {k j : Nat} {T U : Tm} (h : wrt sg ln sg' ln' k T) (hj : j ≠ k) (hU : tat sg ln j U) : tat sg' ln' j U := by
  obtain ⟨-, h2, -, h4⟩ := h
  obtain ⟨g1, g2, g3⟩ := hU
  refine ⟨g1, by rw [h2, pk_un hj]; exact g2, fun i hi => ?_⟩
  rw [h4 _ (by omega)]
  exact g3 i hi
theorem tok_keep {ts : List Tm} {sg ln sg' ln' : Nat → Int32} {k : Nat} {T : Tm} (h : tok ts sg ln) (hw : wrt sg ln sg' ln' k T) (hk : ts.length ≤ k) : tok ts sg' ln' := fun j U hU => wrt_keep hw (by
  have := (List.getElem?_eq_some_iff.mp hU).1
  omega) (h j U hU)
theorem tok_push {ts : List Tm} {sg ln sg' ln' : Nat → Int32} {T : Tm} (h : tok ts sg ln) (hw : wrt sg ln sg' ln' ts.length T) : tok (ts ++ [T]) sg' ln' := by
  intro j U hU
  by_cases hj : j < ts.length
  · rw [List.getElem?_append_left hj] at hU
    exact tok_keep h hw (Nat.le_refl _) j U hU
  · have hl := (List.getElem?_eq_some_iff.mp hU).1
    rw [List.length_append, List.length_singleton] at hl
    have e : j = ts.length := by omega
    subst e
    rw [List.getElem?_append_right (Nat.le_refl _), Nat.sub_self] at hU
    cases hU
    exact wrt_at hw
theorem tok_nil {sg ln : Nat → Int32} : tok [] sg ln := fun k T h => by simp at h
/-- a term that says the same as far as it goes -/
theorem wrt_ext {sg ln sg' ln' : Nat → Int32} {k : Nat} {T U : Tm} (h : wrt sg ln sg' ln' k T) (h1 : T.1 = U.1) (h2 : ∀ i, i < T.1 → T.2 i = U.2 i) : wrt sg ln sg' ln' k U := by
  obtain ⟨a1, a2, a3, a4⟩ := h
  exact ⟨h1 ▸ a1, by rw [a2, h1], fun i hi => by rw [a3 i (h1 ▸ hi)]; exact h2 i (h1 ▸ hi), a4⟩
theorem pln_le (w : Nat → Int32) (n : Nat) : (pln w n).1 ≤ 24 := Nat.min_le_right _ _
theorem stm_le (w : Nat → Int32) (n : Nat) : (stm w n).1 ≤ 24 := by
  unfold stm
  split
  · exact pln_le _ _
  · split
    · exact pln_le _ _
    · exact pln_le _ _
theorem pln_len (w : Nat → Int32) (n : Nat) : (pln w n).1 ≤ n := Nat.min_le_left _ _
theorem pln_ext {w v : Nat → Int32} {n : Nat} (h : ∀ i, i < n → w i = v i) : (pln w n).1 = (pln v n).1 ∧ ∀ i, i < (pln w n).1 → (pln w n).2 i = (pln v n).2 i :=
  ⟨rfl, fun i hi => h i (Nat.lt_of_lt_of_le hi (pln_len w n))⟩
theorem stm_ext {w v : Nat → Int32} {n : Nat} (h : ∀ i, i < n → w i = v i) : (stm w n).1 = (stm v n).1 ∧ ∀ i, i < (stm w n).1 → (stm w n).2 i = (stm v n).2 i := by
  have e1 : ies w n = ies v n := by
    unfold ies
    by_cases hn : 5 ≤ n
    · rw [h (n - 1) (by omega), h (n - 2) (by omega), h (n - 3) (by omega)]
    · simp [hn]
  have e2 : los w n = los v n := by
    unfold los
    by_cases hn : 4 ≤ n
    · rw [h (n - 1) (by omega), h (n - 2) (by omega)]
    · simp [hn]
  unfold stm
  rw [e1, e2]
  split
  · exact pln_ext (fun i hi => by
      by_cases hj : i = n - 3
      · simp [hj]
      · simp [hj, h i (by omega)])
  · split
    · exact pln_ext (fun i hi => h i (by omega))
    · exact pln_ext h
/-! words of a tape: the letters run from a to b, r places are left -/
def scn (q : Nat → Bool) : Nat → Nat → Nat → List (Nat × Nat)
  | 0, b, a => if a < b then [(a, b)] else []
  | r + 1, b, a => if q b = true then scn q r (b + 1) a else (if a < b then [(a, b)] else []) ++ scn q r (b + 1) (b + 1)
theorem scn_len (q : Nat → Bool) : ∀ (r b a : Nat), a ≤ b → 2 * (scn q r b a).length ≤ r + (b - a) + 1
  | 0, b, a, h => by
    unfold scn
    split
    · simp; omega
    · simp
  | r + 1, b, a, h => by
    unfold scn
    split
    · have := scn_len q r (b + 1) a (by omega)
      omega
    · have := scn_len q r (b + 1) (b + 1) (Nat.le_refl _)
      rw [List.length_append]
      split
      · simp; omega
      · simp; omega
theorem scn_in {q : Nat → Bool} {r b a : Nat} (h : q b = true) : scn q (r + 1) b a = scn q r (b + 1) a := by
  show (if q b = true then _ else _) = _
  rw [if_pos h]
theorem scn_out {q : Nat → Bool} {r b a : Nat} (h : ¬ q b = true) : scn q (r + 1) b a = (if a < b then [(a, b)] else []) ++ scn q r (b + 1) (b + 1) := by
  show (if q b = true then _ else _) = _
  rw [if_neg h]
theorem scn_skip {q : Nat → Bool} {r b : Nat} (h : ¬ q b = true) : scn q (r + 1) b b = scn q r (b + 1) (b + 1) := by
  rw [scn_out h, if_neg (Nat.lt_irrefl b), List.nil_append]
/-- letters from b to b + d -/
theorem scn_run {q : Nat → Bool} {r b a : Nat} : ∀ (d : Nat), (∀ i, b ≤ i → i < b + d → q i = true) → scn q (r + d) b a = scn q r (b + d) a
  | 0, _ => rfl
  | d + 1, h => by
    have h1 := scn_run (q := q) (r := r + 1) (b := b) (a := a) d (fun i h1 h2 => h i h1 (by omega))
    rw [show r + (d + 1) = r + 1 + d by omega, h1, scn_in (h (b + d) (by omega) (by omega))]
    rfl
/-- a whole word: from a to b, n the tape's length -/
theorem scn_word {q : Nat → Bool} {n a b : Nat} (hab : a < b) (hbn : b ≤ n) (h : ∀ i, a ≤ i → i < b → q i = true) (he : b = n ∨ ¬ q b = true) : scn q (n - a) a a = (a, b) :: scn q (n - b) b b := by
  have h1 := scn_run (q := q) (r := n - b) (b := a) (a := a) (b - a) (fun i x y => h i x (by omega))
  rw [show n - b + (b - a) = n - a by omega, show a + (b - a) = b by omega] at h1
  rw [h1]
  by_cases hb : b = n
  · rw [hb, Nat.sub_self]
    unfold scn
    rw [if_pos (by omega), if_neg (by omega)]
  · have hq : ¬ q b = true := he.resolve_left hb
    rw [show n - b = (n - b - 1) + 1 by omega, scn_out hq, if_pos hab, scn_skip hq]
    rfl
theorem scn_congr {q v : Nat → Bool} : ∀ (r b a : Nat), (∀ i, b ≤ i → i < b + r → q i = v i) → scn q r b a = scn v r b a
  | 0, b, a, _ => rfl
  | r + 1, b, a, h => by
    unfold scn
    rw [h b (Nat.le_refl _) (by omega), scn_congr r (b + 1) a (fun i x y => h i (by omega) (by omega)), scn_congr r (b + 1) (b + 1) (fun i x y => h i (by omega) (by omega))]
/-- the term of the letters from a to b -/
def twd (f : Nat → Int32) (q : Nat × Nat) : Tm := stm (fun i => f (q.1 + i)) (q.2 - q.1)
def rdT (f : Nat → Int32) (n : Nat) : List Tm := (scn (fun i => sgn (f i)) n 0 0).map (twd f)
theorem rdT_len {f : Nat → Int32} {n : Nat} (hn : n ≤ 300) : (rdT f n).length ≤ 150 := by
  have := scn_len (fun i => sgn (f i)) n 0 0 (Nat.le_refl _)
  unfold rdT
  rw [List.length_map]
  omega
/-- all letters, and one at least -/
def isW (f : Nat → Int32) (n : Nat) : Bool := decide (0 < n) && (List.range n).all (fun i => sgn (f i))
theorem isW_y {f : Nat → Int32} {n : Nat} (h0 : 0 < n) (h : ∀ i, i < n → sgn (f i) = true) : isW f n = true := by
  unfold isW
  rw [Bool.and_eq_true, List.all_eq_true]
  exact ⟨decide_eq_true h0, fun i hi => h i (List.mem_range.mp hi)⟩
theorem isW_0 {f : Nat → Int32} : isW f 0 = false := rfl
theorem isW_n {f : Nat → Int32} {n i : Nat} (hi : i < n) (h : ¬ sgn (f i) = true) : isW f n = false := by
  cases e : isW f n with
  | false => rfl
  | true =>
    unfold isW at e
    rw [Bool.and_eq_true, List.all_eq_true] at e
    exact absurd (e.2 i (List.mem_range.mpr hi)) h
theorem isW_of {f : Nat → Int32} {n : Nat} (h : isW f n = true) : 0 < n ∧ ∀ i, i < n → sgn (f i) = true := by
  unfold isW at h
  rw [Bool.and_eq_true, List.all_eq_true] at h
  exact ⟨of_decide_eq_true h.1, fun i hi => h.2 i (List.mem_range.mpr hi)⟩
/-! order -/
def odr (f g : Nat → Int32) (a b : Nat) : Nat → Nat → Int32
  | 0, _ => if a < b then -1 else if b < a then 1 else 0
  | r + 1, i => if f i = g i then odr f g a b r (i + 1) else if f i < g i then -1 else 1
def od (T U : Tm) : Int32 := odr T.2 U.2 T.1 U.1 (min T.1 U.1) 0
theorem odr_self (f : Nat → Int32) (a : Nat) : ∀ (r i : Nat), odr f f a a r i = 0
  | 0, i => by
    unfold odr
    rw [if_neg (Nat.lt_irrefl a), if_neg (Nat.lt_irrefl a)]
  | r + 1, i => by
    unfold odr
    rw [if_pos rfl]
    exact odr_self f a r (i + 1)
theorem od_self (T : Tm) : od T T = 0 := odr_self _ _ _ _
def fsr (ts : List Tm) (T : Tm) : Nat → Nat → Nat
  | 0, j => j
  | r + 1, j => match ts[j]? with
    | some U => if od U T = 0 then j else fsr ts T r (j + 1)
    | none => j
/-- the first term that is the same as T, which stands at k -/
def fst (ts : List Tm) (T : Tm) (k : Nat) : Nat := fsr ts T k 0
theorem fsr_y {ts : List Tm} {T U : Tm} {r j : Nat} (hU : ts[j]? = some U) (h : od U T = 0) : fsr ts T (r + 1) j = j := by
  unfold fsr
  rw [hU]
  exact if_pos h
theorem fsr_n {ts : List Tm} {T U : Tm} {r j : Nat} (hU : ts[j]? = some U) (h : ¬ od U T = 0) : fsr ts T (r + 1) j = fsr ts T r (j + 1) := by
  conv => lhs; unfold fsr
  rw [hU]
  exact if_neg h
theorem fsr_le {ts : List Tm} {T : Tm} : ∀ (r j : Nat), j + r < 2 ^ 30 → fsr ts T r j ≤ j + r
  | 0, j, _ => Nat.le_refl _
  | r + 1, j, h => by
    unfold fsr
    split
    · split
      · omega
      · have := fsr_le (ts := ts) (T := T) r (j + 1) (by omega)
        omega
    · omega
/-- how many terms below m are the first of their kind -/
def dct (ts : List Tm) : Nat → Nat
  | 0 => 0
  | m + 1 => dct ts m + (match ts[m]? with
    | some T => if fst ts T m = m then 1 else 0
    | none => 0)
theorem dct_le (ts : List Tm) : ∀ m, dct ts m ≤ m
  | 0 => Nat.le_refl _
  | m + 1 => by
    have := dct_le ts m
    unfold dct
    split
    · split <;> omega
    · omega
theorem dct_y {ts : List Tm} {T : Tm} {m : Nat} (hT : ts[m]? = some T) (h : fst ts T m = m) : dct ts (m + 1) = dct ts m + 1 := by
  conv => lhs; unfold dct
  rw [hT]
  show dct ts m + (if fst ts T m = m then 1 else 0) = _
  rw [if_pos h]
theorem dct_n {ts : List Tm} {T : Tm} {m : Nat} (hT : ts[m]? = some T) (h : ¬ fst ts T m = m) : dct ts (m + 1) = dct ts m := by
  conv => lhs; unfold dct
  rw [hT]
  show dct ts m + (if fst ts T m = m then 1 else 0) = _
  rw [if_neg h]
  rfl
/-! distance -/
def lro (pv : Nat → Nat) (c : Nat → Bool) (a : Nat) : Nat → Nat
  | 0 => a
  | b + 1 => min (pv b + (if c b = true then 0 else 1)) (min (pv (b + 1)) (lro pv c a b) + 1)
def lvr (f g : Nat → Int32) : Nat → Nat → Nat
  | 0, b => b
  | a + 1, b => lro (lvr f g a) (fun j => decide (f a = g j)) (a + 1) b
def lev (T U : Tm) : Nat := lvr T.2 U.2 T.1 U.1
theorem lvr_0 (f g : Nat → Int32) (b : Nat) : lvr f g 0 b = b := rfl
theorem lvr_s0 (f g : Nat → Int32) (a : Nat) : lvr f g (a + 1) 0 = a + 1 := rfl
theorem lvr_a0 (f g : Nat → Int32) (a : Nat) : lvr f g a 0 = a := by cases a <;> rfl
theorem lvr_ss (f g : Nat → Int32) (a b : Nat) : lvr f g (a + 1) (b + 1) = min (lvr f g a b + (if f a = g b then 0 else 1)) (min (lvr f g a (b + 1)) (lvr f g (a + 1) b) + 1) := by
  show min (lvr f g a b + (if decide (f a = g b) = true then 0 else 1)) _ = _
  simp only [decide_eq_true_eq]
  rfl
theorem lvr_le (f g : Nat → Int32) : ∀ (a b : Nat), lvr f g a b ≤ max a b
  | 0, b => by rw [lvr_0]; omega
  | a + 1, 0 => by rw [lvr_s0]; omega
  | a + 1, b + 1 => by
    have h := lvr_le f g a b
    rw [lvr_ss]
    split <;> omega
theorem lev_le {T U : Tm} (h1 : T.1 ≤ 24) (h2 : U.1 ≤ 24) : lev T U ≤ 24 := by
  have := lvr_le T.2 U.2 T.1 U.1
  unfold lev
  omega
/-! the nearest term; c: the distance to begin with -/
def nbs (ts : List Tm) (T : Tm) (c : Nat) : Nat → Int32 × Nat
  | 0 => (-2, c)
  | m + 1 => match ts[m]? with
    | some U => if lev U T < (nbs ts T c m).2 then (nI m, lev U T) else nbs ts T c m
    | none => nbs ts T c m
theorem nbs_y {ts : List Tm} {T U : Tm} {c m : Nat} (hU : ts[m]? = some U) (h : lev U T < (nbs ts T c m).2) : nbs ts T c (m + 1) = (nI m, lev U T) := by
  conv => lhs; unfold nbs
  rw [hU]
  exact if_pos h
theorem nbs_n {ts : List Tm} {T U : Tm} {c m : Nat} (hU : ts[m]? = some U) (h : ¬ lev U T < (nbs ts T c m).2) : nbs ts T c (m + 1) = nbs ts T c m := by
  conv => lhs; unfold nbs
  rw [hU]
  exact if_neg h
theorem nbs_le (ts : List Tm) (T : Tm) (c : Nat) : ∀ m, (nbs ts T c m).2 ≤ c
  | 0 => Nat.le_refl _
  | m + 1 => by
    have := nbs_le ts T c m
    unfold nbs
    split
    · split
      · show lev _ T ≤ c
        omega
      · exact this
    · exact this
/-- whether one begins with 25 or with 100 is the same, where all distances are at most 24 -/
theorem nbs_same {ts : List Tm} {T : Tm} (h : ∀ (k : Nat) (U : Tm), ts[k]? = some U → lev U T ≤ 24) : ∀ m, m ≤ ts.length → nbs ts T 25 m = nbs ts T 100 m ∨ (m = 0)
  | 0, _ => Or.inr rfl
  | m + 1, hm => by
    have hU : ts[m]? = some ts[m] := List.getElem?_eq_getElem (by omega)
    have h24 := h m _ hU
    rcases nbs_same h m (by omega) with e | e
    · left
      unfold nbs
      rw [hU, e]
    · subst e
      left
      rw [nbs_y hU (by show _ < 25; omega), nbs_y hU (by show _ < 100; omega)]
theorem nbs_eq {ts : List Tm} {T : Tm} (h : ∀ (k : Nat) (U : Tm), ts[k]? = some U → lev U T ≤ 24) : (nbs ts T 25 ts.length).1 = (nbs ts T 100 ts.length).1 := by
  rcases nbs_same h ts.length (Nat.le_refl _) with e | e
  · rw [e]
  · rw [e]
    rfl
/-- the term that a number means -/
def hasT (ts : List Tm) (k : Int32) : Option Tm := if k < 0 then none else ts[k.toNatClampNeg]?
theorem hasT_neg {ts : List Tm} {k : Int32} (h : k < 0) : hasT ts k = none := if_pos h
theorem hasT_big {ts : List Tm} {k : Int32} (h0 : ¬ k < 0) (h : nI ts.length ≤ k) (hl : ts.length ≤ 150) : hasT ts k = none := by
  obtain ⟨j, hj, rfl⟩ := nI_of h0
  unfold hasT
  rw [if_neg h0, nI_clamp hj]
  exact List.getElem?_eq_none ((nI_leI (by omega) hj).mp h)
theorem hasT_in {ts : List Tm} {j : Nat} (h : j < 2 ^ 31) : hasT ts (nI j) = ts[j]? := by
  unfold hasT
  rw [if_neg (nI_pos h), nI_clamp h]
/-- a number: no term's, or a place -/
theorem hasT_cases (ts : List Tm) (k : Int32) (hl : ts.length ≤ 150) : (hasT ts k = none ∧ (k < 0 ∨ nI ts.length ≤ k)) ∨ ∃ (j : Nat) (T : Tm), j < ts.length ∧ k = nI j ∧ ts[j]? = some T ∧ hasT ts k = some T := by
  rcases pk_ix k (n := ts.length) (by omega) with h | h | ⟨j, hj, rfl⟩
  · exact Or.inl ⟨hasT_neg h, Or.inl h⟩
  · by_cases h0 : k < 0
    · exact Or.inl ⟨hasT_neg h0, Or.inl h0⟩
    · exact Or.inl ⟨hasT_big h0 h hl, Or.inr h⟩
  · refine Or.inr ⟨j, ts[j], hj, rfl, List.getElem?_eq_getElem hj, ?_⟩
    rw [hasT_in (by omega)]
    exact List.getElem?_eq_getElem hj
end
section
abbrev xS : Type := (Nat → Int32) × Int32 × (Nat → Int32) × (Nat → Int32) × Int32 × (Nat → Int32)
abbrev xw (g : Nat → Nat) (k : Nat → ClassId) (u : xS) : va_W := [(g 0, .inr (0, [.ref (g 1), .int u.2.1, .ref (g 2), .ref (g 3), .int u.2.2.2.2.1, .ref (g 4)])), (g 1, .inl (k 1, 300, .inl u.1)), (g 2, .inl (k 2, 3624, .inl u.2.2.1)), (g 3, .inl (k 3, 151, .inl u.2.2.2.1)), (g 4, .inl (k 4, 25, .inl u.2.2.2.2.2))]
abbrev xT (k : Nat → ClassId) : List (ClassId × FieldType) := [(k 1, .byte), (k 2, .byte), (k 3, .int), (k 4, .int)]
abbrev mS : Type := (Nat → Int32) × Int32 × (Nat → Int32) × (Nat → Int32) × Int32 × (Nat → Int32) × Int32 × (Nat → Int32)
abbrev mw (g : Nat → Nat) (k : Nat → ClassId) (u : mS) : va_W := [(g 0, .inr (1, [.ref (g 1), .int u.2.1, .ref (g 2), .ref (g 3), .int u.2.2.2.2.1, .ref (g 4), .int u.2.2.2.2.2.2.1, .ref (g 5)])), (g 1, .inl (k 1, 300, .inl u.1)), (g 2, .inl (k 2, 3624, .inl u.2.2.1)), (g 3, .inl (k 3, 151, .inl u.2.2.2.1)), (g 4, .inl (k 4, 300, .inl u.2.2.2.2.2.1)), (g 5, .inl (k 5, 625, .inl u.2.2.2.2.2.2.2))]
abbrev mT (k : Nat → ClassId) : List (ClassId × FieldType) := [(k 1, .byte), (k 2, .byte), (k 3, .int), (k 4, .byte), (k 5, .int)]
section ROWSX
variable {p : Program} {l : Launch} {e : Env} {R : Room} {s : State} {m : MethodId} {args : Array Value} {below : List Frame} {meth : Method} {c : Code} {H : Heap} {locs : List Loc} {Q : State → Prop}
variable {cc : ByteArray} {nL pc : Nat} {ls : Array Slot} {rest : List Value} {D : va_G} {A : Nat → Prop} {ret : Option FieldType} {g : Nat → Nat} {k : Nat → ClassId}
variable {tp : Nat → Int32} {tl : Int32} {sg : Nat → Int32} {ln : Nat → Int32} {tc : Int32} {ds : Nat → Int32}
theorem xg_tp (hC : gC p m c cc nL s args R_X meth ret D (xT k) A) (hw : gH D (xw g k) A s.heap (tp, tl, sg, ln, tc, ds) H locs) (hdg : decode cc pc = .ok (.getfield 9, 3)) (kk : W p l e R s m args below meth c H locs 0 0 Q (F0 m (pc + 3) ls (.ref (g 1) :: rest))) : W p l e R s m args below meth c H locs 0 0 Q (F0 m pc ls (.ref (g 0) :: rest)) :=
  va_get (D := D) (cl := classes) (ws := xw g k (tp, tl, sg, ln, tc, ds)) (ci := 0) (v := .ref (g 1)) (C := R_X) (T := F_X) (N := 6) hC.1.1 hC.1.2.1 hC.1.2.2.2.2 hin_X hC.1.2.2.2.1 hC.2.2.1 hw.1 0 rfl rfl 0 (by decide) (hC.1.2.2.2.2 _ lk_X_tape) (fun _ h => h) rfl hdg kk
theorem xl_tp {i : Nat} (hi : i < 300) (hC : gC p m c cc nL s args R_X meth ret D (xT k) A) (hw : gH D (xw g k) A s.heap (tp, tl, sg, ln, tc, ds) H locs) (hdg : decode cc pc = .ok (.baload, 1)) (kk : W p l e R s m args below meth c H locs 0 0 Q (F0 m (pc + 1) ls (.int (tp i) :: rest))) : W p l e R s m args below meth c H locs 0 0 Q (F0 m pc ls (.int (nI i) :: .ref (g 1) :: rest)) := by
  refine va_bald (D := D) (cl := classes) (ws := xw g k (tp, tl, sg, ln, tc, ds)) hC.1.1 hC.1.2.1 hC.2.2.1 hw.1 1 0 rfl rfl (vp_in_nI hi (by decide)) hdg ?_
  rw [nI_clamp (by omega)]
  exact kk
theorem xs_tp {i : Nat} {x : Int32} (hi : i < 300) (hx0 : x.toInt8.toInt32 = x) (hC : gC p m c cc nL s args R_X meth ret D (xT k) A) (hw : gH D (xw g k) A s.heap (tp, tl, sg, ln, tc, ds) H locs) (hdg : decode cc pc = .ok (.bastore, 1)) (kk : ∀ (H1 : Heap) (locs1 : List Loc), gH D (xw g k) A s.heap (upd tp i x, tl, sg, ln, tc, ds) H1 locs1 → W p l e R s m args below meth c H1 locs1 0 0 Q (F0 m (pc + 1) ls rest)) : W p l e R s m args below meth c H locs 0 0 Q (F0 m pc ls (.int x :: .int (nI i) :: .ref (g 1) :: rest)) := by
  refine va_bast (D := D) (cl := classes) (ws := xw g k (tp, tl, sg, ln, tc, ds)) hC.1.1 hC.1.2.1 hC.2.2.1 hw.1 hw.2.1 hw.2.2 1 0 rfl rfl (vp_in_nI hi (by decide)) hdg (fun H1 locs1 hP hD hS => ?_)
  rw [nI_clamp (by omega), vp_nar_byte, hx0] at hP hD
  exact kk H1 locs1 ⟨hP, hD, hS⟩
theorem xg_tl (hC : gC p m c cc nL s args R_X meth ret D (xT k) A) (hw : gH D (xw g k) A s.heap (tp, tl, sg, ln, tc, ds) H locs) (hdg : decode cc pc = .ok (.getfield 13, 3)) (kk : W p l e R s m args below meth c H locs 0 0 Q (F0 m (pc + 3) ls (.int tl :: rest))) : W p l e R s m args below meth c H locs 0 0 Q (F0 m pc ls (.ref (g 0) :: rest)) :=
  va_get (D := D) (cl := classes) (ws := xw g k (tp, tl, sg, ln, tc, ds)) (ci := 0) (v := .int tl) (C := R_X) (T := F_X) (N := 6) hC.1.1 hC.1.2.1 hC.1.2.2.2.2 hin_X hC.1.2.2.2.1 hC.2.2.1 hw.1 0 rfl rfl 1 (by decide) (hC.1.2.2.2.2 _ lk_X_tapeLength) (fun _ h => h) rfl hdg kk
theorem xp_tl {v : Int32} (hC : gC p m c cc nL s args R_X meth ret D (xT k) A) (hw : gH D (xw g k) A s.heap (tp, tl, sg, ln, tc, ds) H locs) (hdg : decode cc pc = .ok (.putfield 13, 3)) (kk : ∀ (H1 : Heap) (locs1 : List Loc), gH D (xw g k) A s.heap (tp, v, sg, ln, tc, ds) H1 locs1 → W p l e R s m args below meth c H1 locs1 0 0 Q (F0 m (pc + 3) ls rest)) : W p l e R s m args below meth c H locs 0 0 Q (F0 m pc ls (.int v :: .ref (g 0) :: rest)) :=
  va_put (D := D) (cl := classes) (ws := xw g k (tp, tl, sg, ln, tc, ds)) (ci := 0) (v := .int v) (ty := .int) (C := R_X) (T := F_X) (N := 6) hC.1.1 hC.1.2.1 hC.1.2.2.2.2 hin_X t_X t_X_ok n_X hC.1.2.2.2.1 hC.2.2.1 hw.1 hw.2.1 hw.2.2 0 rfl rfl 1 (by decide) (hC.1.2.2.2.2 _ lk_X_tapeLength) (fun _ h => h) rfl (by decide +kernel) rfl rfl (Nat.le_of_ble_eq_true rfl) hdg (fun H1 locs1 hP hD hS => kk H1 locs1 ⟨hP, hD, hS⟩)
theorem xg_sg (hC : gC p m c cc nL s args R_X meth ret D (xT k) A) (hw : gH D (xw g k) A s.heap (tp, tl, sg, ln, tc, ds) H locs) (hdg : decode cc pc = .ok (.getfield 17, 3)) (kk : W p l e R s m args below meth c H locs 0 0 Q (F0 m (pc + 3) ls (.ref (g 2) :: rest))) : W p l e R s m args below meth c H locs 0 0 Q (F0 m pc ls (.ref (g 0) :: rest)) :=
  va_get (D := D) (cl := classes) (ws := xw g k (tp, tl, sg, ln, tc, ds)) (ci := 0) (v := .ref (g 2)) (C := R_X) (T := F_X) (N := 6) hC.1.1 hC.1.2.1 hC.1.2.2.2.2 hin_X hC.1.2.2.2.1 hC.2.2.1 hw.1 0 rfl rfl 2 (by decide) (hC.1.2.2.2.2 _ lk_X_signs) (fun _ h => h) rfl hdg kk
theorem xl_sg {i : Nat} (hi : i < 3624) (hC : gC p m c cc nL s args R_X meth ret D (xT k) A) (hw : gH D (xw g k) A s.heap (tp, tl, sg, ln, tc, ds) H locs) (hdg : decode cc pc = .ok (.baload, 1)) (kk : W p l e R s m args below meth c H locs 0 0 Q (F0 m (pc + 1) ls (.int (sg i) :: rest))) : W p l e R s m args below meth c H locs 0 0 Q (F0 m pc ls (.int (nI i) :: .ref (g 2) :: rest)) := by
  refine va_bald (D := D) (cl := classes) (ws := xw g k (tp, tl, sg, ln, tc, ds)) hC.1.1 hC.1.2.1 hC.2.2.1 hw.1 2 1 rfl rfl (vp_in_nI hi (by decide)) hdg ?_
  rw [nI_clamp (by omega)]
  exact kk
theorem xs_sg {i : Nat} {x : Int32} (hi : i < 3624) (hx0 : x.toInt8.toInt32 = x) (hC : gC p m c cc nL s args R_X meth ret D (xT k) A) (hw : gH D (xw g k) A s.heap (tp, tl, sg, ln, tc, ds) H locs) (hdg : decode cc pc = .ok (.bastore, 1)) (kk : ∀ (H1 : Heap) (locs1 : List Loc), gH D (xw g k) A s.heap (tp, tl, upd sg i x, ln, tc, ds) H1 locs1 → W p l e R s m args below meth c H1 locs1 0 0 Q (F0 m (pc + 1) ls rest)) : W p l e R s m args below meth c H locs 0 0 Q (F0 m pc ls (.int x :: .int (nI i) :: .ref (g 2) :: rest)) := by
  refine va_bast (D := D) (cl := classes) (ws := xw g k (tp, tl, sg, ln, tc, ds)) hC.1.1 hC.1.2.1 hC.2.2.1 hw.1 hw.2.1 hw.2.2 2 1 rfl rfl (vp_in_nI hi (by decide)) hdg (fun H1 locs1 hP hD hS => ?_)
  rw [nI_clamp (by omega), vp_nar_byte, hx0] at hP hD
  exact kk H1 locs1 ⟨hP, hD, hS⟩
theorem xg_ln (hC : gC p m c cc nL s args R_X meth ret D (xT k) A) (hw : gH D (xw g k) A s.heap (tp, tl, sg, ln, tc, ds) H locs) (hdg : decode cc pc = .ok (.getfield 20, 3)) (kk : W p l e R s m args below meth c H locs 0 0 Q (F0 m (pc + 3) ls (.ref (g 3) :: rest))) : W p l e R s m args below meth c H locs 0 0 Q (F0 m pc ls (.ref (g 0) :: rest)) :=
  va_get (D := D) (cl := classes) (ws := xw g k (tp, tl, sg, ln, tc, ds)) (ci := 0) (v := .ref (g 3)) (C := R_X) (T := F_X) (N := 6) hC.1.1 hC.1.2.1 hC.1.2.2.2.2 hin_X hC.1.2.2.2.1 hC.2.2.1 hw.1 0 rfl rfl 3 (by decide) (hC.1.2.2.2.2 _ lk_X_lengths) (fun _ h => h) rfl hdg kk
theorem xl_ln {i : Nat} (hi : i < 151) (hC : gC p m c cc nL s args R_X meth ret D (xT k) A) (hw : gH D (xw g k) A s.heap (tp, tl, sg, ln, tc, ds) H locs) (hdg : decode cc pc = .ok (.iaload, 1)) (kk : W p l e R s m args below meth c H locs 0 0 Q (F0 m (pc + 1) ls (.int (ln i) :: rest))) : W p l e R s m args below meth c H locs 0 0 Q (F0 m pc ls (.int (nI i) :: .ref (g 3) :: rest)) := by
  refine va_iald (D := D) (cl := classes) (ws := xw g k (tp, tl, sg, ln, tc, ds)) hC.1.1 hC.1.2.1 hC.2.2.1 hw.1 3 2 rfl rfl (vp_in_nI hi (by decide)) hdg ?_
  rw [nI_clamp (by omega)]
  exact kk
theorem xs_ln {i : Nat} {x : Int32} (hi : i < 151) (hC : gC p m c cc nL s args R_X meth ret D (xT k) A) (hw : gH D (xw g k) A s.heap (tp, tl, sg, ln, tc, ds) H locs) (hdg : decode cc pc = .ok (.iastore, 1)) (kk : ∀ (H1 : Heap) (locs1 : List Loc), gH D (xw g k) A s.heap (tp, tl, sg, upd ln i x, tc, ds) H1 locs1 → W p l e R s m args below meth c H1 locs1 0 0 Q (F0 m (pc + 1) ls rest)) : W p l e R s m args below meth c H locs 0 0 Q (F0 m pc ls (.int x :: .int (nI i) :: .ref (g 3) :: rest)) := by
  refine va_iast (D := D) (cl := classes) (ws := xw g k (tp, tl, sg, ln, tc, ds)) hC.1.1 hC.1.2.1 hC.2.2.1 hw.1 hw.2.1 hw.2.2 3 2 rfl rfl (vp_in_nI hi (by decide)) hdg (fun H1 locs1 hP hD hS => ?_)
  rw [nI_clamp (by omega)] at hP hD
  exact kk H1 locs1 ⟨hP, hD, hS⟩
theorem xg_tc (hC : gC p m c cc nL s args R_X meth ret D (xT k) A) (hw : gH D (xw g k) A s.heap (tp, tl, sg, ln, tc, ds) H locs) (hdg : decode cc pc = .ok (.getfield 24, 3)) (kk : W p l e R s m args below meth c H locs 0 0 Q (F0 m (pc + 3) ls (.int tc :: rest))) : W p l e R s m args below meth c H locs 0 0 Q (F0 m pc ls (.ref (g 0) :: rest)) :=
  va_get (D := D) (cl := classes) (ws := xw g k (tp, tl, sg, ln, tc, ds)) (ci := 0) (v := .int tc) (C := R_X) (T := F_X) (N := 6) hC.1.1 hC.1.2.1 hC.1.2.2.2.2 hin_X hC.1.2.2.2.1 hC.2.2.1 hw.1 0 rfl rfl 4 (by decide) (hC.1.2.2.2.2 _ lk_X_termCount) (fun _ h => h) rfl hdg kk
theorem xp_tc {v : Int32} (hC : gC p m c cc nL s args R_X meth ret D (xT k) A) (hw : gH D (xw g k) A s.heap (tp, tl, sg, ln, tc, ds) H locs) (hdg : decode cc pc = .ok (.putfield 24, 3)) (kk : ∀ (H1 : Heap) (locs1 : List Loc), gH D (xw g k) A s.heap (tp, tl, sg, ln, v, ds) H1 locs1 → W p l e R s m args below meth c H1 locs1 0 0 Q (F0 m (pc + 3) ls rest)) : W p l e R s m args below meth c H locs 0 0 Q (F0 m pc ls (.int v :: .ref (g 0) :: rest)) :=
  va_put (D := D) (cl := classes) (ws := xw g k (tp, tl, sg, ln, tc, ds)) (ci := 0) (v := .int v) (ty := .int) (C := R_X) (T := F_X) (N := 6) hC.1.1 hC.1.2.1 hC.1.2.2.2.2 hin_X t_X t_X_ok n_X hC.1.2.2.2.1 hC.2.2.1 hw.1 hw.2.1 hw.2.2 0 rfl rfl 4 (by decide) (hC.1.2.2.2.2 _ lk_X_termCount) (fun _ h => h) rfl (by decide +kernel) rfl rfl (Nat.le_of_ble_eq_true rfl) hdg (fun H1 locs1 hP hD hS => kk H1 locs1 ⟨hP, hD, hS⟩)
theorem xg_ds (hC : gC p m c cc nL s args R_X meth ret D (xT k) A) (hw : gH D (xw g k) A s.heap (tp, tl, sg, ln, tc, ds) H locs) (hdg : decode cc pc = .ok (.getfield 27, 3)) (kk : W p l e R s m args below meth c H locs 0 0 Q (F0 m (pc + 3) ls (.ref (g 4) :: rest))) : W p l e R s m args below meth c H locs 0 0 Q (F0 m pc ls (.ref (g 0) :: rest)) :=
  va_get (D := D) (cl := classes) (ws := xw g k (tp, tl, sg, ln, tc, ds)) (ci := 0) (v := .ref (g 4)) (C := R_X) (T := F_X) (N := 6) hC.1.1 hC.1.2.1 hC.1.2.2.2.2 hin_X hC.1.2.2.2.1 hC.2.2.1 hw.1 0 rfl rfl 5 (by decide) (hC.1.2.2.2.2 _ lk_X_distances) (fun _ h => h) rfl hdg kk
theorem xl_ds {i : Nat} (hi : i < 25) (hC : gC p m c cc nL s args R_X meth ret D (xT k) A) (hw : gH D (xw g k) A s.heap (tp, tl, sg, ln, tc, ds) H locs) (hdg : decode cc pc = .ok (.iaload, 1)) (kk : W p l e R s m args below meth c H locs 0 0 Q (F0 m (pc + 1) ls (.int (ds i) :: rest))) : W p l e R s m args below meth c H locs 0 0 Q (F0 m pc ls (.int (nI i) :: .ref (g 4) :: rest)) := by
  refine va_iald (D := D) (cl := classes) (ws := xw g k (tp, tl, sg, ln, tc, ds)) hC.1.1 hC.1.2.1 hC.2.2.1 hw.1 4 3 rfl rfl (vp_in_nI hi (by decide)) hdg ?_
  rw [nI_clamp (by omega)]
  exact kk
theorem xs_ds {i : Nat} {x : Int32} (hi : i < 25) (hC : gC p m c cc nL s args R_X meth ret D (xT k) A) (hw : gH D (xw g k) A s.heap (tp, tl, sg, ln, tc, ds) H locs) (hdg : decode cc pc = .ok (.iastore, 1)) (kk : ∀ (H1 : Heap) (locs1 : List Loc), gH D (xw g k) A s.heap (tp, tl, sg, ln, tc, upd ds i x) H1 locs1 → W p l e R s m args below meth c H1 locs1 0 0 Q (F0 m (pc + 1) ls rest)) : W p l e R s m args below meth c H locs 0 0 Q (F0 m pc ls (.int x :: .int (nI i) :: .ref (g 4) :: rest)) := by
  refine va_iast (D := D) (cl := classes) (ws := xw g k (tp, tl, sg, ln, tc, ds)) hC.1.1 hC.1.2.1 hC.2.2.1 hw.1 hw.2.1 hw.2.2 4 3 rfl rfl (vp_in_nI hi (by decide)) hdg (fun H1 locs1 hP hD hS => ?_)
  rw [nI_clamp (by omega)] at hP hD
  exact kk H1 locs1 ⟨hP, hD, hS⟩
end ROWSX
section ROWSM
variable {p : Program} {l : Launch} {e : Env} {R : Room} {s : State} {m : MethodId} {args : Array Value} {below : List Frame} {meth : Method} {c : Code} {H : Heap} {locs : List Loc} {Q : State → Prop}
variable {cc : ByteArray} {nL pc : Nat} {ls : Array Slot} {rest : List Value} {D : va_G} {A : Nat → Prop} {ret : Option FieldType} {g : Nat → Nat} {k : Nat → ClassId}
variable {tp : Nat → Int32} {tl : Int32} {tm : Nat → Int32} {sz : Nat → Int32} {ct : Int32} {wd : Nat → Int32} {wl : Int32} {tb : Nat → Int32}
theorem mg_tp (hC : gC p m c cc nL s args R_M meth ret D (mT k) A) (hw : gH D (mw g k) A s.heap (tp, tl, tm, sz, ct, wd, wl, tb) H locs) (hdg : decode cc pc = .ok (.getfield 9, 3)) (kk : W p l e R s m args below meth c H locs 0 0 Q (F0 m (pc + 3) ls (.ref (g 1) :: rest))) : W p l e R s m args below meth c H locs 0 0 Q (F0 m pc ls (.ref (g 0) :: rest)) :=
  va_get (D := D) (cl := classes) (ws := mw g k (tp, tl, tm, sz, ct, wd, wl, tb)) (ci := 1) (v := .ref (g 1)) (C := R_M) (T := F_M) (N := 8) hC.1.1 hC.1.2.1 hC.1.2.2.2.2 hin_M hC.1.2.2.2.1 hC.2.2.1 hw.1 0 rfl rfl 0 (by decide) (hC.1.2.2.2.2 _ lk_M_tape) (fun _ h => h) rfl hdg kk
theorem ml_tp {i : Nat} (hi : i < 300) (hC : gC p m c cc nL s args R_M meth ret D (mT k) A) (hw : gH D (mw g k) A s.heap (tp, tl, tm, sz, ct, wd, wl, tb) H locs) (hdg : decode cc pc = .ok (.baload, 1)) (kk : W p l e R s m args below meth c H locs 0 0 Q (F0 m (pc + 1) ls (.int (tp i) :: rest))) : W p l e R s m args below meth c H locs 0 0 Q (F0 m pc ls (.int (nI i) :: .ref (g 1) :: rest)) := by
  refine va_bald (D := D) (cl := classes) (ws := mw g k (tp, tl, tm, sz, ct, wd, wl, tb)) hC.1.1 hC.1.2.1 hC.2.2.1 hw.1 1 0 rfl rfl (vp_in_nI hi (by decide)) hdg ?_
  rw [nI_clamp (by omega)]
  exact kk
theorem ms_tp {i : Nat} {x : Int32} (hi : i < 300) (hx0 : x.toInt8.toInt32 = x) (hC : gC p m c cc nL s args R_M meth ret D (mT k) A) (hw : gH D (mw g k) A s.heap (tp, tl, tm, sz, ct, wd, wl, tb) H locs) (hdg : decode cc pc = .ok (.bastore, 1)) (kk : ∀ (H1 : Heap) (locs1 : List Loc), gH D (mw g k) A s.heap (upd tp i x, tl, tm, sz, ct, wd, wl, tb) H1 locs1 → W p l e R s m args below meth c H1 locs1 0 0 Q (F0 m (pc + 1) ls rest)) : W p l e R s m args below meth c H locs 0 0 Q (F0 m pc ls (.int x :: .int (nI i) :: .ref (g 1) :: rest)) := by
  refine va_bast (D := D) (cl := classes) (ws := mw g k (tp, tl, tm, sz, ct, wd, wl, tb)) hC.1.1 hC.1.2.1 hC.2.2.1 hw.1 hw.2.1 hw.2.2 1 0 rfl rfl (vp_in_nI hi (by decide)) hdg (fun H1 locs1 hP hD hS => ?_)
  rw [nI_clamp (by omega), vp_nar_byte, hx0] at hP hD
  exact kk H1 locs1 ⟨hP, hD, hS⟩
theorem mg_tl (hC : gC p m c cc nL s args R_M meth ret D (mT k) A) (hw : gH D (mw g k) A s.heap (tp, tl, tm, sz, ct, wd, wl, tb) H locs) (hdg : decode cc pc = .ok (.getfield 26, 3)) (kk : W p l e R s m args below meth c H locs 0 0 Q (F0 m (pc + 3) ls (.int tl :: rest))) : W p l e R s m args below meth c H locs 0 0 Q (F0 m pc ls (.ref (g 0) :: rest)) :=
  va_get (D := D) (cl := classes) (ws := mw g k (tp, tl, tm, sz, ct, wd, wl, tb)) (ci := 1) (v := .int tl) (C := R_M) (T := F_M) (N := 8) hC.1.1 hC.1.2.1 hC.1.2.2.2.2 hin_M hC.1.2.2.2.1 hC.2.2.1 hw.1 0 rfl rfl 1 (by decide) (hC.1.2.2.2.2 _ lk_M_length) (fun _ h => h) rfl hdg kk
theorem mp_tl {v : Int32} (hC : gC p m c cc nL s args R_M meth ret D (mT k) A) (hw : gH D (mw g k) A s.heap (tp, tl, tm, sz, ct, wd, wl, tb) H locs) (hdg : decode cc pc = .ok (.putfield 26, 3)) (kk : ∀ (H1 : Heap) (locs1 : List Loc), gH D (mw g k) A s.heap (tp, v, tm, sz, ct, wd, wl, tb) H1 locs1 → W p l e R s m args below meth c H1 locs1 0 0 Q (F0 m (pc + 3) ls rest)) : W p l e R s m args below meth c H locs 0 0 Q (F0 m pc ls (.int v :: .ref (g 0) :: rest)) :=
  va_put (D := D) (cl := classes) (ws := mw g k (tp, tl, tm, sz, ct, wd, wl, tb)) (ci := 1) (v := .int v) (ty := .int) (C := R_M) (T := F_M) (N := 8) hC.1.1 hC.1.2.1 hC.1.2.2.2.2 hin_M t_M t_M_ok n_M hC.1.2.2.2.1 hC.2.2.1 hw.1 hw.2.1 hw.2.2 0 rfl rfl 1 (by decide) (hC.1.2.2.2.2 _ lk_M_length) (fun _ h => h) rfl (by decide +kernel) rfl rfl (Nat.le_of_ble_eq_true rfl) hdg (fun H1 locs1 hP hD hS => kk H1 locs1 ⟨hP, hD, hS⟩)
theorem mg_tm (hC : gC p m c cc nL s args R_M meth ret D (mT k) A) (hw : gH D (mw g k) A s.heap (tp, tl, tm, sz, ct, wd, wl, tb) H locs) (hdg : decode cc pc = .ok (.getfield 13, 3)) (kk : W p l e R s m args below meth c H locs 0 0 Q (F0 m (pc + 3) ls (.ref (g 2) :: rest))) : W p l e R s m args below meth c H locs 0 0 Q (F0 m pc ls (.ref (g 0) :: rest)) :=
  va_get (D := D) (cl := classes) (ws := mw g k (tp, tl, tm, sz, ct, wd, wl, tb)) (ci := 1) (v := .ref (g 2)) (C := R_M) (T := F_M) (N := 8) hC.1.1 hC.1.2.1 hC.1.2.2.2.2 hin_M hC.1.2.2.2.1 hC.2.2.1 hw.1 0 rfl rfl 2 (by decide) (hC.1.2.2.2.2 _ lk_M_terms) (fun _ h => h) rfl hdg kk
theorem ml_tm {i : Nat} (hi : i < 3624) (hC : gC p m c cc nL s args R_M meth ret D (mT k) A) (hw : gH D (mw g k) A s.heap (tp, tl, tm, sz, ct, wd, wl, tb) H locs) (hdg : decode cc pc = .ok (.baload, 1)) (kk : W p l e R s m args below meth c H locs 0 0 Q (F0 m (pc + 1) ls (.int (tm i) :: rest))) : W p l e R s m args below meth c H locs 0 0 Q (F0 m pc ls (.int (nI i) :: .ref (g 2) :: rest)) := by
  refine va_bald (D := D) (cl := classes) (ws := mw g k (tp, tl, tm, sz, ct, wd, wl, tb)) hC.1.1 hC.1.2.1 hC.2.2.1 hw.1 2 1 rfl rfl (vp_in_nI hi (by decide)) hdg ?_
  rw [nI_clamp (by omega)]
  exact kk
theorem ms_tm {i : Nat} {x : Int32} (hi : i < 3624) (hx0 : x.toInt8.toInt32 = x) (hC : gC p m c cc nL s args R_M meth ret D (mT k) A) (hw : gH D (mw g k) A s.heap (tp, tl, tm, sz, ct, wd, wl, tb) H locs) (hdg : decode cc pc = .ok (.bastore, 1)) (kk : ∀ (H1 : Heap) (locs1 : List Loc), gH D (mw g k) A s.heap (tp, tl, upd tm i x, sz, ct, wd, wl, tb) H1 locs1 → W p l e R s m args below meth c H1 locs1 0 0 Q (F0 m (pc + 1) ls rest)) : W p l e R s m args below meth c H locs 0 0 Q (F0 m pc ls (.int x :: .int (nI i) :: .ref (g 2) :: rest)) := by
  refine va_bast (D := D) (cl := classes) (ws := mw g k (tp, tl, tm, sz, ct, wd, wl, tb)) hC.1.1 hC.1.2.1 hC.2.2.1 hw.1 hw.2.1 hw.2.2 2 1 rfl rfl (vp_in_nI hi (by decide)) hdg (fun H1 locs1 hP hD hS => ?_)
  rw [nI_clamp (by omega), vp_nar_byte, hx0] at hP hD
  exact kk H1 locs1 ⟨hP, hD, hS⟩
theorem mg_sz (hC : gC p m c cc nL s args R_M meth ret D (mT k) A) (hw : gH D (mw g k) A s.heap (tp, tl, tm, sz, ct, wd, wl, tb) H locs) (hdg : decode cc pc = .ok (.getfield 16, 3)) (kk : W p l e R s m args below meth c H locs 0 0 Q (F0 m (pc + 3) ls (.ref (g 3) :: rest))) : W p l e R s m args below meth c H locs 0 0 Q (F0 m pc ls (.ref (g 0) :: rest)) :=
  va_get (D := D) (cl := classes) (ws := mw g k (tp, tl, tm, sz, ct, wd, wl, tb)) (ci := 1) (v := .ref (g 3)) (C := R_M) (T := F_M) (N := 8) hC.1.1 hC.1.2.1 hC.1.2.2.2.2 hin_M hC.1.2.2.2.1 hC.2.2.1 hw.1 0 rfl rfl 3 (by decide) (hC.1.2.2.2.2 _ lk_M_sizes) (fun _ h => h) rfl hdg kk
theorem ml_sz {i : Nat} (hi : i < 151) (hC : gC p m c cc nL s args R_M meth ret D (mT k) A) (hw : gH D (mw g k) A s.heap (tp, tl, tm, sz, ct, wd, wl, tb) H locs) (hdg : decode cc pc = .ok (.iaload, 1)) (kk : W p l e R s m args below meth c H locs 0 0 Q (F0 m (pc + 1) ls (.int (sz i) :: rest))) : W p l e R s m args below meth c H locs 0 0 Q (F0 m pc ls (.int (nI i) :: .ref (g 3) :: rest)) := by
  refine va_iald (D := D) (cl := classes) (ws := mw g k (tp, tl, tm, sz, ct, wd, wl, tb)) hC.1.1 hC.1.2.1 hC.2.2.1 hw.1 3 2 rfl rfl (vp_in_nI hi (by decide)) hdg ?_
  rw [nI_clamp (by omega)]
  exact kk
theorem ms_sz {i : Nat} {x : Int32} (hi : i < 151) (hC : gC p m c cc nL s args R_M meth ret D (mT k) A) (hw : gH D (mw g k) A s.heap (tp, tl, tm, sz, ct, wd, wl, tb) H locs) (hdg : decode cc pc = .ok (.iastore, 1)) (kk : ∀ (H1 : Heap) (locs1 : List Loc), gH D (mw g k) A s.heap (tp, tl, tm, upd sz i x, ct, wd, wl, tb) H1 locs1 → W p l e R s m args below meth c H1 locs1 0 0 Q (F0 m (pc + 1) ls rest)) : W p l e R s m args below meth c H locs 0 0 Q (F0 m pc ls (.int x :: .int (nI i) :: .ref (g 3) :: rest)) := by
  refine va_iast (D := D) (cl := classes) (ws := mw g k (tp, tl, tm, sz, ct, wd, wl, tb)) hC.1.1 hC.1.2.1 hC.2.2.1 hw.1 hw.2.1 hw.2.2 3 2 rfl rfl (vp_in_nI hi (by decide)) hdg (fun H1 locs1 hP hD hS => ?_)
  rw [nI_clamp (by omega)] at hP hD
  exact kk H1 locs1 ⟨hP, hD, hS⟩
theorem mg_ct (hC : gC p m c cc nL s args R_M meth ret D (mT k) A) (hw : gH D (mw g k) A s.heap (tp, tl, tm, sz, ct, wd, wl, tb) H locs) (hdg : decode cc pc = .ok (.getfield 48, 3)) (kk : W p l e R s m args below meth c H locs 0 0 Q (F0 m (pc + 3) ls (.int ct :: rest))) : W p l e R s m args below meth c H locs 0 0 Q (F0 m pc ls (.ref (g 0) :: rest)) :=
  va_get (D := D) (cl := classes) (ws := mw g k (tp, tl, tm, sz, ct, wd, wl, tb)) (ci := 1) (v := .int ct) (C := R_M) (T := F_M) (N := 8) hC.1.1 hC.1.2.1 hC.1.2.2.2.2 hin_M hC.1.2.2.2.1 hC.2.2.1 hw.1 0 rfl rfl 4 (by decide) (hC.1.2.2.2.2 _ lk_M_count) (fun _ h => h) rfl hdg kk
theorem mp_ct {v : Int32} (hC : gC p m c cc nL s args R_M meth ret D (mT k) A) (hw : gH D (mw g k) A s.heap (tp, tl, tm, sz, ct, wd, wl, tb) H locs) (hdg : decode cc pc = .ok (.putfield 48, 3)) (kk : ∀ (H1 : Heap) (locs1 : List Loc), gH D (mw g k) A s.heap (tp, tl, tm, sz, v, wd, wl, tb) H1 locs1 → W p l e R s m args below meth c H1 locs1 0 0 Q (F0 m (pc + 3) ls rest)) : W p l e R s m args below meth c H locs 0 0 Q (F0 m pc ls (.int v :: .ref (g 0) :: rest)) :=
  va_put (D := D) (cl := classes) (ws := mw g k (tp, tl, tm, sz, ct, wd, wl, tb)) (ci := 1) (v := .int v) (ty := .int) (C := R_M) (T := F_M) (N := 8) hC.1.1 hC.1.2.1 hC.1.2.2.2.2 hin_M t_M t_M_ok n_M hC.1.2.2.2.1 hC.2.2.1 hw.1 hw.2.1 hw.2.2 0 rfl rfl 4 (by decide) (hC.1.2.2.2.2 _ lk_M_count) (fun _ h => h) rfl (by decide +kernel) rfl rfl (Nat.le_of_ble_eq_true rfl) hdg (fun H1 locs1 hP hD hS => kk H1 locs1 ⟨hP, hD, hS⟩)
theorem mg_wd (hC : gC p m c cc nL s args R_M meth ret D (mT k) A) (hw : gH D (mw g k) A s.heap (tp, tl, tm, sz, ct, wd, wl, tb) H locs) (hdg : decode cc pc = .ok (.getfield 20, 3)) (kk : W p l e R s m args below meth c H locs 0 0 Q (F0 m (pc + 3) ls (.ref (g 4) :: rest))) : W p l e R s m args below meth c H locs 0 0 Q (F0 m pc ls (.ref (g 0) :: rest)) :=
  va_get (D := D) (cl := classes) (ws := mw g k (tp, tl, tm, sz, ct, wd, wl, tb)) (ci := 1) (v := .ref (g 4)) (C := R_M) (T := F_M) (N := 8) hC.1.1 hC.1.2.1 hC.1.2.2.2.2 hin_M hC.1.2.2.2.1 hC.2.2.1 hw.1 0 rfl rfl 5 (by decide) (hC.1.2.2.2.2 _ lk_M_word) (fun _ h => h) rfl hdg kk
theorem ml_wd {i : Nat} (hi : i < 300) (hC : gC p m c cc nL s args R_M meth ret D (mT k) A) (hw : gH D (mw g k) A s.heap (tp, tl, tm, sz, ct, wd, wl, tb) H locs) (hdg : decode cc pc = .ok (.baload, 1)) (kk : W p l e R s m args below meth c H locs 0 0 Q (F0 m (pc + 1) ls (.int (wd i) :: rest))) : W p l e R s m args below meth c H locs 0 0 Q (F0 m pc ls (.int (nI i) :: .ref (g 4) :: rest)) := by
  refine va_bald (D := D) (cl := classes) (ws := mw g k (tp, tl, tm, sz, ct, wd, wl, tb)) hC.1.1 hC.1.2.1 hC.2.2.1 hw.1 4 3 rfl rfl (vp_in_nI hi (by decide)) hdg ?_
  rw [nI_clamp (by omega)]
  exact kk
theorem ms_wd {i : Nat} {x : Int32} (hi : i < 300) (hx0 : x.toInt8.toInt32 = x) (hC : gC p m c cc nL s args R_M meth ret D (mT k) A) (hw : gH D (mw g k) A s.heap (tp, tl, tm, sz, ct, wd, wl, tb) H locs) (hdg : decode cc pc = .ok (.bastore, 1)) (kk : ∀ (H1 : Heap) (locs1 : List Loc), gH D (mw g k) A s.heap (tp, tl, tm, sz, ct, upd wd i x, wl, tb) H1 locs1 → W p l e R s m args below meth c H1 locs1 0 0 Q (F0 m (pc + 1) ls rest)) : W p l e R s m args below meth c H locs 0 0 Q (F0 m pc ls (.int x :: .int (nI i) :: .ref (g 4) :: rest)) := by
  refine va_bast (D := D) (cl := classes) (ws := mw g k (tp, tl, tm, sz, ct, wd, wl, tb)) hC.1.1 hC.1.2.1 hC.2.2.1 hw.1 hw.2.1 hw.2.2 4 3 rfl rfl (vp_in_nI hi (by decide)) hdg (fun H1 locs1 hP hD hS => ?_)
  rw [nI_clamp (by omega), vp_nar_byte, hx0] at hP hD
  exact kk H1 locs1 ⟨hP, hD, hS⟩
theorem mg_wl (hC : gC p m c cc nL s args R_M meth ret D (mT k) A) (hw : gH D (mw g k) A s.heap (tp, tl, tm, sz, ct, wd, wl, tb) H locs) (hdg : decode cc pc = .ok (.getfield 34, 3)) (kk : W p l e R s m args below meth c H locs 0 0 Q (F0 m (pc + 3) ls (.int wl :: rest))) : W p l e R s m args below meth c H locs 0 0 Q (F0 m pc ls (.ref (g 0) :: rest)) :=
  va_get (D := D) (cl := classes) (ws := mw g k (tp, tl, tm, sz, ct, wd, wl, tb)) (ci := 1) (v := .int wl) (C := R_M) (T := F_M) (N := 8) hC.1.1 hC.1.2.1 hC.1.2.2.2.2 hin_M hC.1.2.2.2.1 hC.2.2.1 hw.1 0 rfl rfl 6 (by decide) (hC.1.2.2.2.2 _ lk_M_wordLength) (fun _ h => h) rfl hdg kk
theorem mp_wl {v : Int32} (hC : gC p m c cc nL s args R_M meth ret D (mT k) A) (hw : gH D (mw g k) A s.heap (tp, tl, tm, sz, ct, wd, wl, tb) H locs) (hdg : decode cc pc = .ok (.putfield 34, 3)) (kk : ∀ (H1 : Heap) (locs1 : List Loc), gH D (mw g k) A s.heap (tp, tl, tm, sz, ct, wd, v, tb) H1 locs1 → W p l e R s m args below meth c H1 locs1 0 0 Q (F0 m (pc + 3) ls rest)) : W p l e R s m args below meth c H locs 0 0 Q (F0 m pc ls (.int v :: .ref (g 0) :: rest)) :=
  va_put (D := D) (cl := classes) (ws := mw g k (tp, tl, tm, sz, ct, wd, wl, tb)) (ci := 1) (v := .int v) (ty := .int) (C := R_M) (T := F_M) (N := 8) hC.1.1 hC.1.2.1 hC.1.2.2.2.2 hin_M t_M t_M_ok n_M hC.1.2.2.2.1 hC.2.2.1 hw.1 hw.2.1 hw.2.2 0 rfl rfl 6 (by decide) (hC.1.2.2.2.2 _ lk_M_wordLength) (fun _ h => h) rfl (by decide +kernel) rfl rfl (Nat.le_of_ble_eq_true rfl) hdg (fun H1 locs1 hP hD hS => kk H1 locs1 ⟨hP, hD, hS⟩)
theorem mg_tb (hC : gC p m c cc nL s args R_M meth ret D (mT k) A) (hw : gH D (mw g k) A s.heap (tp, tl, tm, sz, ct, wd, wl, tb) H locs) (hdg : decode cc pc = .ok (.getfield 23, 3)) (kk : W p l e R s m args below meth c H locs 0 0 Q (F0 m (pc + 3) ls (.ref (g 5) :: rest))) : W p l e R s m args below meth c H locs 0 0 Q (F0 m pc ls (.ref (g 0) :: rest)) :=
  va_get (D := D) (cl := classes) (ws := mw g k (tp, tl, tm, sz, ct, wd, wl, tb)) (ci := 1) (v := .ref (g 5)) (C := R_M) (T := F_M) (N := 8) hC.1.1 hC.1.2.1 hC.1.2.2.2.2 hin_M hC.1.2.2.2.1 hC.2.2.1 hw.1 0 rfl rfl 7 (by decide) (hC.1.2.2.2.2 _ lk_M_table) (fun _ h => h) rfl hdg kk
theorem ml_tb {i : Nat} (hi : i < 625) (hC : gC p m c cc nL s args R_M meth ret D (mT k) A) (hw : gH D (mw g k) A s.heap (tp, tl, tm, sz, ct, wd, wl, tb) H locs) (hdg : decode cc pc = .ok (.iaload, 1)) (kk : W p l e R s m args below meth c H locs 0 0 Q (F0 m (pc + 1) ls (.int (tb i) :: rest))) : W p l e R s m args below meth c H locs 0 0 Q (F0 m pc ls (.int (nI i) :: .ref (g 5) :: rest)) := by
  refine va_iald (D := D) (cl := classes) (ws := mw g k (tp, tl, tm, sz, ct, wd, wl, tb)) hC.1.1 hC.1.2.1 hC.2.2.1 hw.1 5 4 rfl rfl (vp_in_nI hi (by decide)) hdg ?_
  rw [nI_clamp (by omega)]
  exact kk
theorem ms_tb {i : Nat} {x : Int32} (hi : i < 625) (hC : gC p m c cc nL s args R_M meth ret D (mT k) A) (hw : gH D (mw g k) A s.heap (tp, tl, tm, sz, ct, wd, wl, tb) H locs) (hdg : decode cc pc = .ok (.iastore, 1)) (kk : ∀ (H1 : Heap) (locs1 : List Loc), gH D (mw g k) A s.heap (tp, tl, tm, sz, ct, wd, wl, upd tb i x) H1 locs1 → W p l e R s m args below meth c H1 locs1 0 0 Q (F0 m (pc + 1) ls rest)) : W p l e R s m args below meth c H locs 0 0 Q (F0 m pc ls (.int x :: .int (nI i) :: .ref (g 5) :: rest)) := by
  refine va_iast (D := D) (cl := classes) (ws := mw g k (tp, tl, tm, sz, ct, wd, wl, tb)) hC.1.1 hC.1.2.1 hC.2.2.1 hw.1 hw.2.1 hw.2.2 5 4 rfl rfl (vp_in_nI hi (by decide)) hdg (fun H1 locs1 hP hD hS => ?_)
  rw [nI_clamp (by omega)] at hP hD
  exact kk H1 locs1 ⟨hP, hD, hS⟩
end ROWSM
end
section
set_option maxHeartbeats 4000000 in
set_option maxRecDepth 100000 in
theorem c_X_small (l : Launch) (D : va_G) {b : Int32} (hby : by_ok b) : gMs l y_X_small (gW y_X_small b_X_small 1 (some .byte)) (gR 0) D [.int b] (sm b) := by
  refine g_starti (by decide) (Nat.le_of_ble_eq_true rfl) ?_
  intro p ev s m args below meth cd A Q ls hC hQ hl hw
  have hx := hC.1.1
  have hb := hC.1.2.1
  have hl : lv_has ls 1 [(0, .int b)] := hl
  refine lv_iload_n (pc := 0) hx hb d_X_small_0 rfl (lv_at hl 0 rfl) ?_
  refine lv_bipush (pc := 1) (v := 65) hx hb d_X_small_1 (by decide) ?_
  refine lv_icmp_lt (pc := 3) (tgt := 23) hx hb d_X_small_3 (by decide) (fun hc3 => ?_) (fun hc3 => ?_)
  · refine lv_iload_n (pc := 23) hx hb d_X_small_23 rfl (lv_at hl 0 rfl) ?_
    refine g_top (y := sm b) ((sm_no (fun q => absurd hc3 (Int32.not_lt.mpr q.1))).symm) ?_
    exact hQ _ _ _ _ _ _ hw (by_nar (by_sm hby)) (rfl) d_X_small_24
  · refine lv_iload_n (pc := 6) hx hb d_X_small_6 rfl (lv_at hl 0 rfl) ?_
    refine lv_bipush (pc := 7) (v := 90) hx hb d_X_small_7 (by decide) ?_
    refine lv_icmp_gt (pc := 9) (tgt := 23) hx hb d_X_small_9 (by decide) (fun hc9 => ?_) (fun hc9 => ?_)
    · refine lv_iload_n (pc := 23) hx hb d_X_small_23 rfl (lv_at hl 0 rfl) ?_
      refine g_top (y := sm b) ((sm_no (fun q => absurd hc9 (Int32.not_lt.mpr q.2))).symm) ?_
      exact hQ _ _ _ _ _ _ hw (by_nar (by_sm hby)) (rfl) d_X_small_24
    · refine lv_iload_n (pc := 12) hx hb d_X_small_12 rfl (lv_at hl 0 rfl) ?_
      refine lv_bipush (pc := 13) (v := 65) hx hb d_X_small_13 (by decide) ?_
      refine lv_isub (pc := 15) hx hb d_X_small_15 ?_
      refine lv_bipush (pc := 16) (v := 97) hx hb d_X_small_16 (by decide) ?_
      refine lv_iadd (pc := 18) hx hb d_X_small_18 ?_
      refine lv_i2b (pc := 19) hx hb d_X_small_19 rfl ?_
      refine g_top (y := sm b) (sm_up hby (Int32.not_lt.mp hc3) (Int32.not_lt.mp hc9)) ?_
      refine lv_goto (pc := 20) (tgt := 24) hx hb d_X_small_20 (by decide) ?_
      exact hQ _ _ _ _ _ _ hw (by_nar (by_sm hby)) (rfl) d_X_small_24
theorem sg_y {b : Int32} (h : (48 ≤ b ∧ b ≤ 57) ∨ (97 ≤ b ∧ b ≤ 122)) : (1 : Int32) = bI (sgn b) := by
  unfold bI sgn
  rw [if_pos (decide_eq_true h)]
theorem sg_n {b : Int32} (h : ¬ ((48 ≤ b ∧ b ≤ 57) ∨ (97 ≤ b ∧ b ≤ 122))) : (0 : Int32) = bI (sgn b) := by
  unfold bI sgn
  rw [if_neg (fun q => h (of_decide_eq_true q))]
theorem nl {a b : Int32} (h : a < b) (q : b ≤ a) : False := absurd h (Int32.not_lt.mpr q)
set_option maxHeartbeats 4000000 in
set_option maxRecDepth 100000 in
theorem c_X_isSign (l : Launch) (D : va_G) (b : Int32) : gMs l y_X_isSign (gW y_X_isSign b_X_isSign 1 (some .boolean)) (gR 0) D [.int b] (bI (sgn b)) := by
  refine g_starti (by decide) (Nat.le_of_ble_eq_true rfl) ?_
  intro p ev s m args below meth cd A Q ls hC hQ hl hw
  have hx := hC.1.1
  have hb := hC.1.2.1
  have hl : lv_has ls 1 [(0, .int b)] := hl
  refine lv_iload_n (pc := 0) hx hb d_X_isSign_0 rfl (lv_at hl 0 rfl) ?_
  refine lv_bipush (pc := 1) (v := 48) hx hb d_X_isSign_1 (by decide) ?_
  refine lv_icmp_lt (pc := 3) (tgt := 12) hx hb d_X_isSign_3 (by decide) (fun hc3 => ?_) (fun hc3 => ?_)
  · refine lv_iload_n (pc := 12) hx hb d_X_isSign_12 rfl (lv_at hl 0 rfl) ?_
    refine lv_bipush (pc := 13) (v := 97) hx hb d_X_isSign_13 (by decide) ?_
    refine lv_icmp_lt (pc := 15) (tgt := 28) hx hb d_X_isSign_15 (by decide) (fun hc15 => ?_) (fun hc15 => ?_)
    · refine lv_iconst (pc := 28) (v := 0) hx hb d_X_isSign_28 (by decide) ?_
      exact hQ _ _ _ _ _ _ hw (rfl) (sg_n (fun q => q.elim (fun z => nl hc3 z.1) (fun z => nl hc15 z.1))) d_X_isSign_29
    · refine lv_iload_n (pc := 18) hx hb d_X_isSign_18 rfl (lv_at hl 0 rfl) ?_
      refine lv_bipush (pc := 19) (v := 122) hx hb d_X_isSign_19 (by decide) ?_
      refine lv_icmp_gt (pc := 21) (tgt := 28) hx hb d_X_isSign_21 (by decide) (fun hc21 => ?_) (fun hc21 => ?_)
      · refine lv_iconst (pc := 28) (v := 0) hx hb d_X_isSign_28 (by decide) ?_
        exact hQ _ _ _ _ _ _ hw (rfl) (sg_n (fun q => q.elim (fun z => nl hc3 z.1) (fun z => nl hc21 z.2))) d_X_isSign_29
      · refine lv_iconst (pc := 24) (v := 1) hx hb d_X_isSign_24 (by decide) ?_
        refine lv_goto (pc := 25) (tgt := 29) hx hb d_X_isSign_25 (by decide) ?_
        exact hQ _ _ _ _ _ _ hw (rfl) (sg_y (Or.inr ⟨Int32.not_lt.mp hc15, Int32.not_lt.mp hc21⟩)) d_X_isSign_29
  · refine lv_iload_n (pc := 6) hx hb d_X_isSign_6 rfl (lv_at hl 0 rfl) ?_
    refine lv_bipush (pc := 7) (v := 57) hx hb d_X_isSign_7 (by decide) ?_
    refine lv_icmp_le (pc := 9) (tgt := 24) hx hb d_X_isSign_9 (by decide) (fun hc9 => ?_) (fun hc9 => ?_)
    · refine lv_iconst (pc := 24) (v := 1) hx hb d_X_isSign_24 (by decide) ?_
      refine lv_goto (pc := 25) (tgt := 29) hx hb d_X_isSign_25 (by decide) ?_
      exact hQ _ _ _ _ _ _ hw (rfl) (sg_y (Or.inl ⟨Int32.not_lt.mp hc3, hc9⟩)) d_X_isSign_29
    · refine lv_iload_n (pc := 12) hx hb d_X_isSign_12 rfl (lv_at hl 0 rfl) ?_
      refine lv_bipush (pc := 13) (v := 97) hx hb d_X_isSign_13 (by decide) ?_
      refine lv_icmp_lt (pc := 15) (tgt := 28) hx hb d_X_isSign_15 (by decide) (fun hc15 => ?_) (fun hc15 => ?_)
      · refine lv_iconst (pc := 28) (v := 0) hx hb d_X_isSign_28 (by decide) ?_
        exact hQ _ _ _ _ _ _ hw (rfl) (sg_n (fun q => q.elim (fun z => hc9 z.2) (fun z => nl hc15 z.1))) d_X_isSign_29
      · refine lv_iload_n (pc := 18) hx hb d_X_isSign_18 rfl (lv_at hl 0 rfl) ?_
        refine lv_bipush (pc := 19) (v := 122) hx hb d_X_isSign_19 (by decide) ?_
        refine lv_icmp_gt (pc := 21) (tgt := 28) hx hb d_X_isSign_21 (by decide) (fun hc21 => ?_) (fun hc21 => ?_)
        · refine lv_iconst (pc := 28) (v := 0) hx hb d_X_isSign_28 (by decide) ?_
          exact hQ _ _ _ _ _ _ hw (rfl) (sg_n (fun q => q.elim (fun z => hc9 z.2) (fun z => nl hc21 z.2))) d_X_isSign_29
        · refine lv_iconst (pc := 24) (v := 1) hx hb d_X_isSign_24 (by decide) ?_
          refine lv_goto (pc := 25) (tgt := 29) hx hb d_X_isSign_25 (by decide) ?_
          exact hQ _ _ _ _ _ _ hw (rfl) (sg_y (Or.inr ⟨Int32.not_lt.mp hc15, Int32.not_lt.mp hc21⟩)) d_X_isSign_29
set_option maxHeartbeats 4000000 in
set_option maxRecDepth 100000 in
theorem c_X_hasTerm_n (l : Launch) (D : va_G) (g : Nat → Nat) (k : Nat → ClassId) (tp : Nat → Int32) (tl : Int32) (sg ln : Nat → Int32) (tc : Int32) (ds : Nat → Int32) {x : Int32} (h : x < 0 ∨ tc ≤ x) : gMi l y_X_hasTerm (gW y_X_hasTerm b_X_hasTerm 2 (some .boolean)) (gR 0) D (xT k) (xw g k) [.ref (g 0), .int x] (tp, tl, sg, ln, tc, ds) (fun r u => r = 0 ∧ u = (tp, tl, sg, ln, tc, ds)) := by
  refine g_starti (by decide) (Nat.le_of_ble_eq_true rfl) ?_
  intro p ev s m args below meth cd A Q ls hC hQ hl hw
  have hx := hC.1.1
  have hb := hC.1.2.1
  have hl : lv_has ls 2 [(0, .ref (g 0)), (1, .int x)] := hl
  refine lv_iload_n (pc := 0) hx hb d_X_hasTerm_0 rfl (lv_at hl 1 rfl) ?_
  refine lv_if_lt (pc := 1) (tgt := 16) hx hb d_X_hasTerm_1 (by decide) (fun hc1 => ?_) (fun hc1 => ?_)
  · refine lv_iconst (pc := 16) (v := 0) hx hb d_X_hasTerm_16 (by decide) ?_
    exact hQ _ _ _ _ _ _ hw (rfl) (⟨rfl, rfl⟩) d_X_hasTerm_17
  · refine lv_iload_n (pc := 4) hx hb d_X_hasTerm_4 rfl (lv_at hl 1 rfl) ?_
    refine lv_aload_n (pc := 5) hx hb d_X_hasTerm_5 rfl (lv_at hl 0 rfl) ?_
    refine xg_tc (pc := 6) hC hw d_X_hasTerm_6 ?_
    refine lv_icmp_ge (pc := 9) (tgt := 16) hx hb d_X_hasTerm_9 (by decide) (fun hc9 => ?_) (fun hc9 => ?_)
    · refine lv_iconst (pc := 16) (v := 0) hx hb d_X_hasTerm_16 (by decide) ?_
      exact hQ _ _ _ _ _ _ hw (rfl) (⟨rfl, rfl⟩) d_X_hasTerm_17
    · exact (h.elim hc1 hc9).elim
set_option maxHeartbeats 4000000 in
set_option maxRecDepth 100000 in
theorem c_X_hasTerm_y (l : Launch) (D : va_G) (g : Nat → Nat) (k : Nat → ClassId) (tp : Nat → Int32) (tl : Int32) (sg ln : Nat → Int32) (ds : Nat → Int32) {j c : Nat} (h : j < c) (hc : c ≤ 150) : gMi l y_X_hasTerm (gW y_X_hasTerm b_X_hasTerm 2 (some .boolean)) (gR 0) D (xT k) (xw g k) [.ref (g 0), .int (nI j)] (tp, tl, sg, ln, (nI c), ds) (fun r u => r = 1 ∧ u = (tp, tl, sg, ln, (nI c), ds)) := by
  refine g_starti (by decide) (Nat.le_of_ble_eq_true rfl) ?_
  intro p ev s m args below meth cd A Q ls hC hQ hl hw
  have hx := hC.1.1
  have hb := hC.1.2.1
  have hl : lv_has ls 2 [(0, .ref (g 0)), (1, .int (nI j))] := hl
  refine lv_iload_n (pc := 0) hx hb d_X_hasTerm_0 rfl (lv_at hl 1 rfl) ?_
  refine lv_if_lt (pc := 1) (tgt := 16) hx hb d_X_hasTerm_1 (by decide) (fun hc1 => ?_) (fun hc1 => ?_)
  · exact absurd hc1 (nI_pos (by omega))
  · refine lv_iload_n (pc := 4) hx hb d_X_hasTerm_4 rfl (lv_at hl 1 rfl) ?_
    refine lv_aload_n (pc := 5) hx hb d_X_hasTerm_5 rfl (lv_at hl 0 rfl) ?_
    refine xg_tc (pc := 6) hC hw d_X_hasTerm_6 ?_
    refine nc_ge (pc := 9) (tgt := 16) hx hb d_X_hasTerm_9 (by decide) (by omega) (by omega) (fun hc9 => ?_) (fun hc9 => ?_)
    · omega
    · refine lv_iconst (pc := 12) (v := nI 1) hx hb d_X_hasTerm_12 (by decide) ?_
      refine lv_goto (pc := 13) (tgt := 17) hx hb d_X_hasTerm_13 (by decide) ?_
      exact hQ _ _ _ _ _ _ hw (rfl) (⟨rfl, rfl⟩) d_X_hasTerm_17
set_option maxHeartbeats 4000000 in
set_option maxRecDepth 100000 in
theorem c_X_signAt (l : Launch) (D : va_G) (g : Nat → Nat) (k : Nat → ClassId) (tp : Nat → Int32) (tl : Int32) (sg ln : Nat → Int32) (tc : Int32) (ds : Nat → Int32) {a j : Nat} (h : 24 * a + j < 3624) : gMi l y_X_signAt (gW y_X_signAt b_X_signAt 3 (some .int)) (gR 0) D (xT k) (xw g k) [.ref (g 0), .int (nI a), .int (nI j)] (tp, tl, sg, ln, tc, ds) (fun r u => r = sg (24 * a + j) ∧ u = (tp, tl, sg, ln, tc, ds)) := by
  refine g_starti (by decide) (Nat.le_of_ble_eq_true rfl) ?_
  intro p ev s m args below meth cd A Q ls hC hQ hl hw
  have hx := hC.1.1
  have hb := hC.1.2.1
  have hl : lv_has ls 3 [(0, .ref (g 0)), (1, .int (nI a)), (2, .int (nI j))] := hl
  refine lv_aload_n (pc := 0) hx hb d_X_signAt_0 rfl (lv_at hl 0 rfl) ?_
  refine xg_sg (pc := 1) hC hw d_X_signAt_1 ?_
  refine lv_iload_n (pc := 4) hx hb d_X_signAt_4 rfl (lv_at hl 1 rfl) ?_
  refine lv_bipush (pc := 5) (v := nI 24) hx hb d_X_signAt_5 (by decide) ?_
  refine lv_imul (pc := 7) hx hb d_X_signAt_7 ?_
  refine g_top (y := nI (24 * a)) ((pk_mul _ _).trans (congrArg nI (Nat.mul_comm _ _))) ?_
  refine lv_iload_n (pc := 8) hx hb d_X_signAt_8 rfl (lv_at hl 2 rfl) ?_
  refine lv_iadd (pc := 9) hx hb d_X_signAt_9 ?_
  refine g_top (y := nI ((24 * a) + j)) (nI_add _ _) ?_
  refine xl_sg (pc := 10) (i := (24 * a) + j) (by omega) hC hw d_X_signAt_10 ?_
  exact hQ _ _ _ _ _ _ hw (rfl) (⟨rfl, rfl⟩) d_X_signAt_11
theorem bI_y {q : Prop} (dq : Decidable q) (h : q) : (1 : Int32) = bI (decide q) := by
  unfold bI
  rw [if_pos (decide_eq_true h)]
theorem bI_n {q : Prop} (dq : Decidable q) (h : ¬ q) : (0 : Int32) = bI (decide q) := by
  unfold bI
  rw [if_neg (fun z => h (of_decide_eq_true z))]
set_option maxHeartbeats 4000000 in
set_option maxRecDepth 100000 in
theorem c_X_endsWithIes (l : Launch) (D : va_G) (g : Nat → Nat) (k : Nat → ClassId) (tp : Nat → Int32) (tl : Int32) (sg ln : Nat → Int32) (tc : Int32) (ds : Nat → Int32) {t : Nat} (h : 3 ≤ t) (h2 : t ≤ 300) : gMi l y_X_endsWithIes (gW y_X_endsWithIes b_X_endsWithIes 2 (some .boolean)) (gR 0) D (xT k) (xw g k) [.ref (g 0), .int (nI t)] (tp, tl, sg, ln, tc, ds) (fun r u => r = bI (decide (tp (t - 3) = 105 ∧ tp (t - 2) = 101 ∧ tp (t - 1) = 115)) ∧ u = (tp, tl, sg, ln, tc, ds)) := by
  refine g_starti (by decide) (Nat.le_of_ble_eq_true rfl) ?_
  intro p ev s m args below meth cd A Q ls hC hQ hl hw
  have hx := hC.1.1
  have hb := hC.1.2.1
  have hl : lv_has ls 2 [(0, .ref (g 0)), (1, .int (nI t))] := hl
  refine lv_aload_n (pc := 0) hx hb d_X_endsWithIes_0 rfl (lv_at hl 0 rfl) ?_
  refine xg_tp (pc := 1) hC hw d_X_endsWithIes_1 ?_
  refine lv_iload_n (pc := 4) hx hb d_X_endsWithIes_4 rfl (lv_at hl 1 rfl) ?_
  refine lv_iconst (pc := 5) (v := nI 3) hx hb d_X_endsWithIes_5 (by decide) ?_
  refine lv_isub (pc := 6) hx hb d_X_endsWithIes_6 ?_
  refine g_top (y := nI (t - 3)) (pk_sub (by omega)) ?_
  refine xl_tp (pc := 7) (i := t - 3) (by omega) hC hw d_X_endsWithIes_7 ?_
  refine lv_bipush (pc := 8) (v := 105) hx hb d_X_endsWithIes_8 (by decide) ?_
  refine lv_icmp_ne (pc := 10) (tgt := 43) hx hb d_X_endsWithIes_10 (by decide) (fun hc10 => ?_) (fun hc10 => ?_)
  · refine lv_iconst (pc := 43) (v := 0) hx hb d_X_endsWithIes_43 (by decide) ?_
    exact hQ _ _ _ _ _ _ hw (rfl) (⟨bI_n _ (fun q => hc10 q.1), rfl⟩) d_X_endsWithIes_44
  · refine lv_aload_n (pc := 13) hx hb d_X_endsWithIes_13 rfl (lv_at hl 0 rfl) ?_
    refine xg_tp (pc := 14) hC hw d_X_endsWithIes_14 ?_
    refine lv_iload_n (pc := 17) hx hb d_X_endsWithIes_17 rfl (lv_at hl 1 rfl) ?_
    refine lv_iconst (pc := 18) (v := nI 2) hx hb d_X_endsWithIes_18 (by decide) ?_
    refine lv_isub (pc := 19) hx hb d_X_endsWithIes_19 ?_
    refine g_top (y := nI (t - 2)) (pk_sub (by omega)) ?_
    refine xl_tp (pc := 20) (i := t - 2) (by omega) hC hw d_X_endsWithIes_20 ?_
    refine lv_bipush (pc := 21) (v := 101) hx hb d_X_endsWithIes_21 (by decide) ?_
    refine lv_icmp_ne (pc := 23) (tgt := 43) hx hb d_X_endsWithIes_23 (by decide) (fun hc23 => ?_) (fun hc23 => ?_)
    · refine lv_iconst (pc := 43) (v := 0) hx hb d_X_endsWithIes_43 (by decide) ?_
      exact hQ _ _ _ _ _ _ hw (rfl) (⟨bI_n _ (fun q => hc23 q.2.1), rfl⟩) d_X_endsWithIes_44
    · refine lv_aload_n (pc := 26) hx hb d_X_endsWithIes_26 rfl (lv_at hl 0 rfl) ?_
      refine xg_tp (pc := 27) hC hw d_X_endsWithIes_27 ?_
      refine lv_iload_n (pc := 30) hx hb d_X_endsWithIes_30 rfl (lv_at hl 1 rfl) ?_
      refine lv_iconst (pc := 31) (v := nI 1) hx hb d_X_endsWithIes_31 (by decide) ?_
      refine lv_isub (pc := 32) hx hb d_X_endsWithIes_32 ?_
      refine g_top (y := nI (t - 1)) (pk_sub (by omega)) ?_
      refine xl_tp (pc := 33) (i := t - 1) (by omega) hC hw d_X_endsWithIes_33 ?_
      refine lv_bipush (pc := 34) (v := 115) hx hb d_X_endsWithIes_34 (by decide) ?_
      refine lv_icmp_ne (pc := 36) (tgt := 43) hx hb d_X_endsWithIes_36 (by decide) (fun hc36 => ?_) (fun hc36 => ?_)
      · refine lv_iconst (pc := 43) (v := 0) hx hb d_X_endsWithIes_43 (by decide) ?_
        exact hQ _ _ _ _ _ _ hw (rfl) (⟨bI_n _ (fun q => hc36 q.2.2), rfl⟩) d_X_endsWithIes_44
      · refine lv_iconst (pc := 39) (v := 1) hx hb d_X_endsWithIes_39 (by decide) ?_
        refine lv_goto (pc := 40) (tgt := 44) hx hb d_X_endsWithIes_40 (by decide) ?_
        exact hQ _ _ _ _ _ _ hw (rfl) (⟨bI_y _ ⟨hc10, hc23, hc36⟩, rfl⟩) d_X_endsWithIes_44
set_option maxHeartbeats 4000000 in
set_option maxRecDepth 100000 in
theorem c_X_endsWithLooseS (l : Launch) (D : va_G) (g : Nat → Nat) (k : Nat → ClassId) (tp : Nat → Int32) (tl : Int32) (sg ln : Nat → Int32) (tc : Int32) (ds : Nat → Int32) {t : Nat} (h : 2 ≤ t) (h2 : t ≤ 300) : gMi l y_X_endsWithLooseS (gW y_X_endsWithLooseS b_X_endsWithLooseS 2 (some .boolean)) (gR 0) D (xT k) (xw g k) [.ref (g 0), .int (nI t)] (tp, tl, sg, ln, tc, ds) (fun r u => r = bI (decide (tp (t - 1) = 115 ∧ tp (t - 2) ≠ 115 ∧ tp (t - 2) ≠ 117)) ∧ u = (tp, tl, sg, ln, tc, ds)) := by
  refine g_starti (by decide) (Nat.le_of_ble_eq_true rfl) ?_
  intro p ev s m args below meth cd A Q ls hC hQ hl hw
  have hx := hC.1.1
  have hb := hC.1.2.1
  have hl : lv_has ls 2 [(0, .ref (g 0)), (1, .int (nI t))] := hl
  refine lv_aload_n (pc := 0) hx hb d_X_endsWithLooseS_0 rfl (lv_at hl 0 rfl) ?_
  refine xg_tp (pc := 1) hC hw d_X_endsWithLooseS_1 ?_
  refine lv_iload_n (pc := 4) hx hb d_X_endsWithLooseS_4 rfl (lv_at hl 1 rfl) ?_
  refine lv_iconst (pc := 5) (v := nI 1) hx hb d_X_endsWithLooseS_5 (by decide) ?_
  refine lv_isub (pc := 6) hx hb d_X_endsWithLooseS_6 ?_
  refine g_top (y := nI (t - 1)) (pk_sub (by omega)) ?_
  refine xl_tp (pc := 7) (i := t - 1) (by omega) hC hw d_X_endsWithLooseS_7 ?_
  refine lv_bipush (pc := 8) (v := 115) hx hb d_X_endsWithLooseS_8 (by decide) ?_
  refine lv_icmp_ne (pc := 10) (tgt := 43) hx hb d_X_endsWithLooseS_10 (by decide) (fun hc10 => ?_) (fun hc10 => ?_)
  · refine lv_iconst (pc := 43) (v := 0) hx hb d_X_endsWithLooseS_43 (by decide) ?_
    exact hQ _ _ _ _ _ _ hw (rfl) (⟨bI_n _ (fun q => hc10 q.1), rfl⟩) d_X_endsWithLooseS_44
  · refine lv_aload_n (pc := 13) hx hb d_X_endsWithLooseS_13 rfl (lv_at hl 0 rfl) ?_
    refine xg_tp (pc := 14) hC hw d_X_endsWithLooseS_14 ?_
    refine lv_iload_n (pc := 17) hx hb d_X_endsWithLooseS_17 rfl (lv_at hl 1 rfl) ?_
    refine lv_iconst (pc := 18) (v := nI 2) hx hb d_X_endsWithLooseS_18 (by decide) ?_
    refine lv_isub (pc := 19) hx hb d_X_endsWithLooseS_19 ?_
    refine g_top (y := nI (t - 2)) (pk_sub (by omega)) ?_
    refine xl_tp (pc := 20) (i := t - 2) (by omega) hC hw d_X_endsWithLooseS_20 ?_
    refine lv_bipush (pc := 21) (v := 115) hx hb d_X_endsWithLooseS_21 (by decide) ?_
    refine lv_icmp_eq (pc := 23) (tgt := 43) hx hb d_X_endsWithLooseS_23 (by decide) (fun hc23 => ?_) (fun hc23 => ?_)
    · refine lv_iconst (pc := 43) (v := 0) hx hb d_X_endsWithLooseS_43 (by decide) ?_
      exact hQ _ _ _ _ _ _ hw (rfl) (⟨bI_n _ (fun q => q.2.1 hc23), rfl⟩) d_X_endsWithLooseS_44
    · refine lv_aload_n (pc := 26) hx hb d_X_endsWithLooseS_26 rfl (lv_at hl 0 rfl) ?_
      refine xg_tp (pc := 27) hC hw d_X_endsWithLooseS_27 ?_
      refine lv_iload_n (pc := 30) hx hb d_X_endsWithLooseS_30 rfl (lv_at hl 1 rfl) ?_
      refine lv_iconst (pc := 31) (v := nI 2) hx hb d_X_endsWithLooseS_31 (by decide) ?_
      refine lv_isub (pc := 32) hx hb d_X_endsWithLooseS_32 ?_
      refine g_top (y := nI (t - 2)) (pk_sub (by omega)) ?_
      refine xl_tp (pc := 33) (i := t - 2) (by omega) hC hw d_X_endsWithLooseS_33 ?_
      refine lv_bipush (pc := 34) (v := 117) hx hb d_X_endsWithLooseS_34 (by decide) ?_
      refine lv_icmp_eq (pc := 36) (tgt := 43) hx hb d_X_endsWithLooseS_36 (by decide) (fun hc36 => ?_) (fun hc36 => ?_)
      · refine lv_iconst (pc := 43) (v := 0) hx hb d_X_endsWithLooseS_43 (by decide) ?_
        exact hQ _ _ _ _ _ _ hw (rfl) (⟨bI_n _ (fun q => q.2.2 hc36), rfl⟩) d_X_endsWithLooseS_44
      · refine lv_iconst (pc := 39) (v := 1) hx hb d_X_endsWithLooseS_39 (by decide) ?_
        refine lv_goto (pc := 40) (tgt := 44) hx hb d_X_endsWithLooseS_40 (by decide) ?_
        exact hQ _ _ _ _ _ _ hw (rfl) (⟨bI_y _ ⟨hc10, hc23, hc36⟩, rfl⟩) d_X_endsWithLooseS_44
set_option maxHeartbeats 4000000 in
set_option maxRecDepth 100000 in
theorem c_X_end (l : Launch) (D : va_G) (g : Nat → Nat) (k : Nat → ClassId) (tp : Nat → Int32) (tl : Int32) (sg ln : Nat → Int32) (tc : Int32) (ds : Nat → Int32) (x : Int32) : gMi l y_X_end (gW y_X_end b_X_end 2 (some .int)) (gR 0) D (xT k) (xw g k) [.ref (g 0), .int x] (tp, tl, sg, ln, tc, ds) (fun r u => ((x < 0 ∨ tl < x) ∧ r = -1 ∧ u = (tp, tl, sg, ln, tc, ds)) ∨ (¬ x < 0 ∧ x ≤ tl ∧ r = x ∧ u = (tp, x, sg, ln, tc, ds))) := by
  refine g_starti (by decide) (Nat.le_of_ble_eq_true rfl) ?_
  intro p ev s m args below meth cd A Q ls hC hQ hl hw
  have hx := hC.1.1
  have hb := hC.1.2.1
  have hl : lv_has ls 2 [(0, .ref (g 0)), (1, .int x)] := hl
  refine lv_iload_n (pc := 0) hx hb d_X_end_0 rfl (lv_at hl 1 rfl) ?_
  refine lv_if_lt (pc := 1) (tgt := 12) hx hb d_X_end_1 (by decide) (fun hc1 => ?_) (fun hc1 => ?_)
  · refine lv_iconst (pc := 12) (v := (-1)) hx hb d_X_end_12 (by decide) ?_
    exact hQ _ _ _ _ _ _ hw (rfl) (Or.inl ⟨Or.inl hc1, rfl, rfl⟩) d_X_end_13
  · refine lv_iload_n (pc := 4) hx hb d_X_end_4 rfl (lv_at hl 1 rfl) ?_
    refine lv_aload_n (pc := 5) hx hb d_X_end_5 rfl (lv_at hl 0 rfl) ?_
    refine xg_tl (pc := 6) hC hw d_X_end_6 ?_
    refine lv_icmp_le (pc := 9) (tgt := 14) hx hb d_X_end_9 (by decide) (fun hc9 => ?_) (fun hc9 => ?_)
    · refine lv_aload_n (pc := 14) hx hb d_X_end_14 rfl (lv_at hl 0 rfl) ?_
      refine lv_iload_n (pc := 15) hx hb d_X_end_15 rfl (lv_at hl 1 rfl) ?_
      refine xp_tl (pc := 16) hC hw d_X_end_16 (fun H locs hw => ?_)
      have hw : gH D (xw g k) A _ (tp, x, sg, ln, tc, ds) H locs := hw
      refine lv_iload_n (pc := 19) hx hb d_X_end_19 rfl (lv_at hl 1 rfl) ?_
      exact hQ _ _ _ _ _ _ hw (rfl) (Or.inr ⟨hc1, hc9, rfl, rfl⟩) d_X_end_20
    · refine lv_iconst (pc := 12) (v := (-1)) hx hb d_X_end_12 (by decide) ?_
      exact hQ _ _ _ _ _ _ hw (rfl) (Or.inl ⟨Or.inr (Int32.not_le.mp hc9), rfl, rfl⟩) d_X_end_13
end
section
set_option maxHeartbeats 4000000 in
set_option maxRecDepth 100000 in
theorem c_X_putFour (l : Launch) (D : va_G) (g : Nat → Nat) (k : Nat → ClassId) (tp : Nat → Int32) (sg ln : Nat → Int32) (tc : Int32) (ds : Nat → Int32) {n : Nat} (x : Int32) (h : n + 4 ≤ 300) : gMv l y_X_putFour (gW y_X_putFour b_X_putFour 3 none) (gR 1) D (xT k) (xw g k) [.ref (g 0), .int x] (tp, (nI n), sg, ln, tc, ds) (fun u => u = (p4 sm tp n x, nI (n + 4), sg, ln, tc, ds)) := by
  refine g_startv (by decide) (Nat.le_of_ble_eq_true rfl) ?_
  intro p ev s m args below meth cd A Q ls hC hQ hl hw
  have hx := hC.1.1
  have hb := hC.1.2.1
  have hl : lv_has ls 3 [(0, .ref (g 0)), (1, .int x)] := hl
  refine lv_bipush (pc := 0) (v := nI 24) hx hb d_X_putFour_0 (by decide) ?_
  refine lv_istore_n (pc := 2) hx hb d_X_putFour_2 rfl hl (by decide) rfl (fun ls hl => ?_)
  have hl : lv_has ls 3 [(2, .int (nI 24)), (0, .ref (g 0)), (1, .int x)] := hl
  refine lv_iload_n (pc := 3) hx hb d_X_putFour_3 rfl (lv_at hl 0 rfl) ?_
  refine lv_if_lt (pc := 4) (tgt := 39) hx hb d_X_putFour_4 (by decide) (fun hc4 => absurd hc4 (by decide)) (fun _ => ?_)
  refine lv_aload_n (pc := 7) hx hb d_X_putFour_7 rfl (lv_at hl 1 rfl) ?_
  refine xg_tp (pc := 8) hC hw d_X_putFour_8 ?_
  refine lv_aload_n (pc := 11) hx hb d_X_putFour_11 rfl (lv_at hl 1 rfl) ?_
  refine xg_tl (pc := 12) hC hw d_X_putFour_12 ?_
  refine lv_iload_n (pc := 15) hx hb d_X_putFour_15 rfl (lv_at hl 2 rfl) ?_
  refine lv_iload_n (pc := 16) hx hb d_X_putFour_16 rfl (lv_at hl 0 rfl) ?_
  refine lv_iushr (pc := 17) hx hb d_X_putFour_17 rfl ?_
  refine lv_i2b (pc := 18) hx hb d_X_putFour_18 rfl ?_
  refine g_top (y := bq x 24) (bq_u x 24 (by decide)) ?_
  refine g_calls (pc := 19) (as := [.int (bq x 24)]) (rest := [.int (nI n), .ref (g 1)]) hC hw (c_X_small l D (bq_ok x 24)) lm_X_small f_X_small rfl rfl ⟨by decide, by decide⟩ hl.1 (Nat.le_of_ble_eq_true rfl) d_X_putFour_19 (fun H locs hw => ?_)
  refine xs_tp (pc := 22) (i := n) (x := sm (bq x 24)) (by omega) (by_sm (bq_ok x 24)) hC hw d_X_putFour_22 (fun H locs hw => ?_)
  refine lv_aload_n (pc := 23) hx hb d_X_putFour_23 rfl (lv_at hl 1 rfl) ?_
  refine lv_dup (pc := 24) hx hb d_X_putFour_24 rfl ?_
  refine xg_tl (pc := 25) hC hw d_X_putFour_25 ?_
  refine lv_iconst (pc := 28) (v := nI 1) hx hb d_X_putFour_28 (by decide) ?_
  refine lv_iadd (pc := 29) hx hb d_X_putFour_29 ?_
  refine g_top (y := nI (n + 1)) (nI_add _ _) ?_
  refine xp_tl (pc := 30) hC hw d_X_putFour_30 (fun H locs hw => ?_)
  have hw : gH D (xw g k) A _ ((upd tp n (sm (bq x 24))), (nI (n + 1)), sg, ln, tc, ds) H locs := hw
  refine lv_iinc (pc := 33) (k := 0) (v := nI 16) hx hb d_X_putFour_33 hl rfl (by decide) (by decide) rfl (fun ls hl => ?_)
  have hl : lv_has ls 3 [(2, .int (nI 16)), (0, .ref (g 0)), (1, .int x)] := hl
  refine lv_goto (pc := 36) (tgt := 3) hx hb d_X_putFour_36 (by decide) ?_
  refine lv_iload_n (pc := 3) hx hb d_X_putFour_3 rfl (lv_at hl 0 rfl) ?_
  refine lv_if_lt (pc := 4) (tgt := 39) hx hb d_X_putFour_4 (by decide) (fun hc4 => absurd hc4 (by decide)) (fun _ => ?_)
  refine lv_aload_n (pc := 7) hx hb d_X_putFour_7 rfl (lv_at hl 1 rfl) ?_
  refine xg_tp (pc := 8) hC hw d_X_putFour_8 ?_
  refine lv_aload_n (pc := 11) hx hb d_X_putFour_11 rfl (lv_at hl 1 rfl) ?_
  refine xg_tl (pc := 12) hC hw d_X_putFour_12 ?_
  refine lv_iload_n (pc := 15) hx hb d_X_putFour_15 rfl (lv_at hl 2 rfl) ?_
  refine lv_iload_n (pc := 16) hx hb d_X_putFour_16 rfl (lv_at hl 0 rfl) ?_
  refine lv_iushr (pc := 17) hx hb d_X_putFour_17 rfl ?_
  refine lv_i2b (pc := 18) hx hb d_X_putFour_18 rfl ?_
  refine g_top (y := bq x 16) (bq_u x 16 (by decide)) ?_
  refine g_calls (pc := 19) (as := [.int (bq x 16)]) (rest := [.int (nI (n + 1)), .ref (g 1)]) hC hw (c_X_small l D (bq_ok x 16)) lm_X_small f_X_small rfl rfl ⟨by decide, by decide⟩ hl.1 (Nat.le_of_ble_eq_true rfl) d_X_putFour_19 (fun H locs hw => ?_)
  refine xs_tp (pc := 22) (i := n + 1) (x := sm (bq x 16)) (by omega) (by_sm (bq_ok x 16)) hC hw d_X_putFour_22 (fun H locs hw => ?_)
  refine lv_aload_n (pc := 23) hx hb d_X_putFour_23 rfl (lv_at hl 1 rfl) ?_
  refine lv_dup (pc := 24) hx hb d_X_putFour_24 rfl ?_
  refine xg_tl (pc := 25) hC hw d_X_putFour_25 ?_
  refine lv_iconst (pc := 28) (v := nI 1) hx hb d_X_putFour_28 (by decide) ?_
  refine lv_iadd (pc := 29) hx hb d_X_putFour_29 ?_
  refine g_top (y := nI ((n + 1) + 1)) (nI_add _ _) ?_
  refine xp_tl (pc := 30) hC hw d_X_putFour_30 (fun H locs hw => ?_)
  have hw : gH D (xw g k) A _ ((upd ((upd tp n (sm (bq x 24)))) (n + 1) (sm (bq x 16))), (nI ((n + 1) + 1)), sg, ln, tc, ds) H locs := hw
  refine lv_iinc (pc := 33) (k := 0) (v := nI 8) hx hb d_X_putFour_33 hl rfl (by decide) (by decide) rfl (fun ls hl => ?_)
  have hl : lv_has ls 3 [(2, .int (nI 8)), (0, .ref (g 0)), (1, .int x)] := hl
  refine lv_goto (pc := 36) (tgt := 3) hx hb d_X_putFour_36 (by decide) ?_
  refine lv_iload_n (pc := 3) hx hb d_X_putFour_3 rfl (lv_at hl 0 rfl) ?_
  refine lv_if_lt (pc := 4) (tgt := 39) hx hb d_X_putFour_4 (by decide) (fun hc4 => absurd hc4 (by decide)) (fun _ => ?_)
  refine lv_aload_n (pc := 7) hx hb d_X_putFour_7 rfl (lv_at hl 1 rfl) ?_
  refine xg_tp (pc := 8) hC hw d_X_putFour_8 ?_
  refine lv_aload_n (pc := 11) hx hb d_X_putFour_11 rfl (lv_at hl 1 rfl) ?_
  refine xg_tl (pc := 12) hC hw d_X_putFour_12 ?_
  refine lv_iload_n (pc := 15) hx hb d_X_putFour_15 rfl (lv_at hl 2 rfl) ?_
  refine lv_iload_n (pc := 16) hx hb d_X_putFour_16 rfl (lv_at hl 0 rfl) ?_
  refine lv_iushr (pc := 17) hx hb d_X_putFour_17 rfl ?_
  refine lv_i2b (pc := 18) hx hb d_X_putFour_18 rfl ?_
  refine g_top (y := bq x 8) (bq_u x 8 (by decide)) ?_
  refine g_calls (pc := 19) (as := [.int (bq x 8)]) (rest := [.int (nI ((n + 1) + 1)), .ref (g 1)]) hC hw (c_X_small l D (bq_ok x 8)) lm_X_small f_X_small rfl rfl ⟨by decide, by decide⟩ hl.1 (Nat.le_of_ble_eq_true rfl) d_X_putFour_19 (fun H locs hw => ?_)
  refine xs_tp (pc := 22) (i := (n + 1) + 1) (x := sm (bq x 8)) (by omega) (by_sm (bq_ok x 8)) hC hw d_X_putFour_22 (fun H locs hw => ?_)
  refine lv_aload_n (pc := 23) hx hb d_X_putFour_23 rfl (lv_at hl 1 rfl) ?_
  refine lv_dup (pc := 24) hx hb d_X_putFour_24 rfl ?_
  refine xg_tl (pc := 25) hC hw d_X_putFour_25 ?_
  refine lv_iconst (pc := 28) (v := nI 1) hx hb d_X_putFour_28 (by decide) ?_
  refine lv_iadd (pc := 29) hx hb d_X_putFour_29 ?_
  refine g_top (y := nI (((n + 1) + 1) + 1)) (nI_add _ _) ?_
  refine xp_tl (pc := 30) hC hw d_X_putFour_30 (fun H locs hw => ?_)
  have hw : gH D (xw g k) A _ ((upd ((upd ((upd tp n (sm (bq x 24)))) (n + 1) (sm (bq x 16)))) ((n + 1) + 1) (sm (bq x 8))), (nI (((n + 1) + 1) + 1)), sg, ln, tc, ds) H locs := hw
  refine lv_iinc (pc := 33) (k := 0) (v := nI 0) hx hb d_X_putFour_33 hl rfl (by decide) (by decide) rfl (fun ls hl => ?_)
  have hl : lv_has ls 3 [(2, .int (nI 0)), (0, .ref (g 0)), (1, .int x)] := hl
  refine lv_goto (pc := 36) (tgt := 3) hx hb d_X_putFour_36 (by decide) ?_
  refine lv_iload_n (pc := 3) hx hb d_X_putFour_3 rfl (lv_at hl 0 rfl) ?_
  refine lv_if_lt (pc := 4) (tgt := 39) hx hb d_X_putFour_4 (by decide) (fun hc4 => absurd hc4 (by decide)) (fun _ => ?_)
  refine lv_aload_n (pc := 7) hx hb d_X_putFour_7 rfl (lv_at hl 1 rfl) ?_
  refine xg_tp (pc := 8) hC hw d_X_putFour_8 ?_
  refine lv_aload_n (pc := 11) hx hb d_X_putFour_11 rfl (lv_at hl 1 rfl) ?_
  refine xg_tl (pc := 12) hC hw d_X_putFour_12 ?_
  refine lv_iload_n (pc := 15) hx hb d_X_putFour_15 rfl (lv_at hl 2 rfl) ?_
  refine lv_iload_n (pc := 16) hx hb d_X_putFour_16 rfl (lv_at hl 0 rfl) ?_
  refine lv_iushr (pc := 17) hx hb d_X_putFour_17 rfl ?_
  refine lv_i2b (pc := 18) hx hb d_X_putFour_18 rfl ?_
  refine g_top (y := bq x 0) (bq_u x 0 (by decide)) ?_
  refine g_calls (pc := 19) (as := [.int (bq x 0)]) (rest := [.int (nI (((n + 1) + 1) + 1)), .ref (g 1)]) hC hw (c_X_small l D (bq_ok x 0)) lm_X_small f_X_small rfl rfl ⟨by decide, by decide⟩ hl.1 (Nat.le_of_ble_eq_true rfl) d_X_putFour_19 (fun H locs hw => ?_)
  refine xs_tp (pc := 22) (i := ((n + 1) + 1) + 1) (x := sm (bq x 0)) (by omega) (by_sm (bq_ok x 0)) hC hw d_X_putFour_22 (fun H locs hw => ?_)
  refine lv_aload_n (pc := 23) hx hb d_X_putFour_23 rfl (lv_at hl 1 rfl) ?_
  refine lv_dup (pc := 24) hx hb d_X_putFour_24 rfl ?_
  refine xg_tl (pc := 25) hC hw d_X_putFour_25 ?_
  refine lv_iconst (pc := 28) (v := nI 1) hx hb d_X_putFour_28 (by decide) ?_
  refine lv_iadd (pc := 29) hx hb d_X_putFour_29 ?_
  refine g_top (y := nI ((((n + 1) + 1) + 1) + 1)) (nI_add _ _) ?_
  refine xp_tl (pc := 30) hC hw d_X_putFour_30 (fun H locs hw => ?_)
  have hw : gH D (xw g k) A _ ((upd ((upd ((upd ((upd tp n (sm (bq x 24)))) (n + 1) (sm (bq x 16)))) ((n + 1) + 1) (sm (bq x 8)))) (((n + 1) + 1) + 1) (sm (bq x 0))), (nI ((((n + 1) + 1) + 1) + 1)), sg, ln, tc, ds) H locs := hw
  refine lv_iinc (pc := 33) (k := 0) (v := (-8)) hx hb d_X_putFour_33 hl rfl (by decide) (by decide) rfl (fun ls hl => ?_)
  have hl : lv_has ls 3 [(2, .int ((-8))), (0, .ref (g 0)), (1, .int x)] := hl
  refine lv_goto (pc := 36) (tgt := 3) hx hb d_X_putFour_36 (by decide) ?_
  refine lv_iload_n (pc := 3) hx hb d_X_putFour_3 rfl (lv_at hl 0 rfl) ?_
  refine lv_if_lt (pc := 4) (tgt := 39) hx hb d_X_putFour_4 (by decide) (fun _ => ?_) (fun hc4 => absurd (by decide) hc4)
  exact hQ _ _ _ _ _ hw (rfl) d_X_putFour_39
set_option maxHeartbeats 4000000 in
set_option maxRecDepth 100000 in
theorem c_X_feed (l : Launch) (D : va_G) (g : Nat → Nat) (k : Nat → ClassId) (tp : Nat → Int32) (sg ln : Nat → Int32) (tc : Int32) (ds : Nat → Int32) {n : Nat} (v1 v2 v3 v4 v5 : Int32) (h : n ≤ 300) : gMi l y_X_feed (gW y_X_feed b_X_feed 6 (some .int)) (gR 2) D (xT k) (xw g k) [.ref (g 0), .int v1, .int v2, .int v3, .int v4, .int v5] (tp, (nI n), sg, ln, tc, ds) (fun r u => (300 < n + 20 ∧ r = -3 ∧ u = (tp, nI n, sg, ln, tc, ds)) ∨ (n + 20 ≤ 300 ∧ r = nI (n + 20) ∧ u = (p20 sm tp n v1 v2 v3 v4 v5, nI (n + 20), sg, ln, tc, ds))) := by
  refine g_starti (by decide) (Nat.le_of_ble_eq_true rfl) ?_
  intro p ev s m args below meth cd A Q ls hC hQ hl hw
  have hx := hC.1.1
  have hb := hC.1.2.1
  have hl : lv_has ls 6 [(0, .ref (g 0)), (1, .int v1), (2, .int v2), (3, .int v3), (4, .int v4), (5, .int v5)] := hl
  refine lv_aload_n (pc := 0) hx hb d_X_feed_0 rfl (lv_at hl 0 rfl) ?_
  refine xg_tl (pc := 1) hC hw d_X_feed_1 ?_
  refine lv_bipush (pc := 4) (v := nI 20) hx hb d_X_feed_4 (by decide) ?_
  refine lv_iadd (pc := 6) hx hb d_X_feed_6 ?_
  refine g_top (y := nI (n + 20)) (nI_add _ _) ?_
  refine lv_sipush (pc := 7) (v := nI 300) hx hb d_X_feed_7 (by decide) ?_
  refine nc_le (pc := 10) (tgt := 16) hx hb d_X_feed_10 (by decide) (by omega) (by omega) (fun hc10 => ?_) (fun hc10 => ?_)
  · refine lv_aload_n (pc := 16) hx hb d_X_feed_16 rfl (lv_at hl 0 rfl) ?_
    refine lv_iload_n (pc := 17) hx hb d_X_feed_17 rfl (lv_at hl 1 rfl) ?_
    refine g_callv (pc := 18) (as := [.int v1]) (rest := []) hC hw (c_X_putFour l D g k (tp) sg ln tc ds (n := n) v1 (by omega)) lm_X_putFour f_X_putFour rfl rfl rfl rfl ⟨by decide, by decide⟩ hl.1 (Nat.le_of_ble_eq_true rfl) d_X_feed_18 (fun u1 H locs hp hw => ?_)
    subst hp
    refine lv_aload_n (pc := 21) hx hb d_X_feed_21 rfl (lv_at hl 0 rfl) ?_
    refine lv_iload_n (pc := 22) hx hb d_X_feed_22 rfl (lv_at hl 2 rfl) ?_
    refine g_callv (pc := 23) (as := [.int v2]) (rest := []) hC hw (c_X_putFour l D g k (p4 sm (tp) (n) v1) sg ln tc ds (n := n + 4) v2 (by omega)) lm_X_putFour f_X_putFour rfl rfl rfl rfl ⟨by decide, by decide⟩ hl.1 (Nat.le_of_ble_eq_true rfl) d_X_feed_23 (fun u1 H locs hp hw => ?_)
    subst hp
    refine lv_aload_n (pc := 26) hx hb d_X_feed_26 rfl (lv_at hl 0 rfl) ?_
    refine lv_iload_n (pc := 27) hx hb d_X_feed_27 rfl (lv_at hl 3 rfl) ?_
    refine g_callv (pc := 28) (as := [.int v3]) (rest := []) hC hw (c_X_putFour l D g k (p4 sm (p4 sm (tp) (n) v1) (n + 4) v2) sg ln tc ds (n := n + 4 + 4) v3 (by omega)) lm_X_putFour f_X_putFour rfl rfl rfl rfl ⟨by decide, by decide⟩ hl.1 (Nat.le_of_ble_eq_true rfl) d_X_feed_28 (fun u1 H locs hp hw => ?_)
    subst hp
    refine lv_aload_n (pc := 31) hx hb d_X_feed_31 rfl (lv_at hl 0 rfl) ?_
    refine lv_iload (pc := 32) hx hb d_X_feed_32 (lv_at hl 4 rfl) ?_
    refine g_callv (pc := 34) (as := [.int v4]) (rest := []) hC hw (c_X_putFour l D g k (p4 sm (p4 sm (p4 sm (tp) (n) v1) (n + 4) v2) (n + 4 + 4) v3) sg ln tc ds (n := n + 4 + 4 + 4) v4 (by omega)) lm_X_putFour f_X_putFour rfl rfl rfl rfl ⟨by decide, by decide⟩ hl.1 (Nat.le_of_ble_eq_true rfl) d_X_feed_34 (fun u1 H locs hp hw => ?_)
    subst hp
    refine lv_aload_n (pc := 37) hx hb d_X_feed_37 rfl (lv_at hl 0 rfl) ?_
    refine lv_iload (pc := 38) hx hb d_X_feed_38 (lv_at hl 5 rfl) ?_
    refine g_callv (pc := 40) (as := [.int v5]) (rest := []) hC hw (c_X_putFour l D g k (p4 sm (p4 sm (p4 sm (p4 sm (tp) (n) v1) (n + 4) v2) (n + 4 + 4) v3) (n + 4 + 4 + 4) v4) sg ln tc ds (n := n + 4 + 4 + 4 + 4) v5 (by omega)) lm_X_putFour f_X_putFour rfl rfl rfl rfl ⟨by decide, by decide⟩ hl.1 (Nat.le_of_ble_eq_true rfl) d_X_feed_40 (fun u1 H locs hp hw => ?_)
    subst hp
    refine lv_aload_n (pc := 43) hx hb d_X_feed_43 rfl (lv_at hl 0 rfl) ?_
    refine xg_tl (pc := 44) hC hw d_X_feed_44 ?_
    exact hQ _ _ _ _ _ _ hw (rfl) (Or.inr ⟨hc10, rfl, rfl⟩) d_X_feed_47
  · refine lv_bipush (pc := 13) (v := (-3)) hx hb d_X_feed_13 (by decide) ?_
    exact hQ _ _ _ _ _ _ hw (rfl) (Or.inl ⟨hc10, rfl, rfl⟩) d_X_feed_15
/-- what sign answers -/
def asg (ts : List Tm) (x y : Int32) : Int32 := match hasT ts x with
  | none => -2
  | some T => if y < -1 then -2 else if nI T.1 ≤ y then -2 else if y = -1 then nI T.1 else T.2 y.toNatClampNeg
theorem asg_none {ts : List Tm} {x y : Int32} (h : hasT ts x = none) : -2 = asg ts x y := by
  unfold asg
  rw [h]
theorem asg_lo {ts : List Tm} {x y : Int32} {T : Tm} (h : hasT ts x = some T) (h1 : y < -1) : -2 = asg ts x y := by
  unfold asg
  rw [h]
  exact (if_pos h1).symm
theorem asg_hi {ts : List Tm} {x y : Int32} {T : Tm} (h : hasT ts x = some T) (h1 : ¬ y < -1) (h2 : nI T.1 ≤ y) : -2 = asg ts x y := by
  unfold asg
  rw [h]
  show _ = if _ then _ else _
  rw [if_neg h1, if_pos h2]
theorem asg_len {ts : List Tm} {x y : Int32} {T : Tm} (h : hasT ts x = some T) (h1 : ¬ y < -1) (h2 : ¬ nI T.1 ≤ y) (h3 : y = -1) : nI T.1 = asg ts x y := by
  unfold asg
  rw [h]
  show _ = if _ then _ else _
  rw [if_neg h1, if_neg h2, if_pos h3]
theorem asg_in {ts : List Tm} {x y : Int32} {T : Tm} (h : hasT ts x = some T) (h1 : ¬ y < -1) (h2 : ¬ nI T.1 ≤ y) (h3 : ¬ y = -1) : T.2 y.toNatClampNeg = asg ts x y := by
  unfold asg
  rw [h]
  show _ = if _ then _ else _
  rw [if_neg h1, if_neg h2, if_neg h3]
theorem ge0 {y : Int32} (h1 : ¬ y < -1) (h3 : ¬ y = -1) : ¬ y < 0 := by
  have e0 : (0 : Int32).toInt = 0 := by decide
  have e1 : (-1 : Int32).toInt = -1 := by decide
  intro h
  rw [Int32.lt_iff_toInt_lt] at h h1
  rw [e0] at h
  rw [e1] at h1
  exact h3 (Int32.toInt_inj.mp (by rw [e1]; omega))
set_option maxHeartbeats 4000000 in
set_option maxRecDepth 100000 in
theorem c_X_sign (l : Launch) (D : va_G) (g : Nat → Nat) (k : Nat → ClassId) (tp : Nat → Int32) (tl : Int32) {sg ln : Nat → Int32} (ds : Nat → Int32) {ts : List Tm} (x y : Int32) (ht : tok ts sg ln) (hlen : ts.length ≤ 150) : gMi l y_X_sign (gW y_X_sign b_X_sign 3 (some .int)) (gR 1) D (xT k) (xw g k) [.ref (g 0), .int x, .int y] (tp, tl, sg, ln, (nI ts.length), ds) (fun r u => r = asg ts x y ∧ u = (tp, tl, sg, ln, (nI ts.length), ds)) := by
  rcases hasT_cases ts x hlen with ⟨hT, hk⟩ | ⟨j, T, hj, rfl, hj2, hT⟩
  · refine g_starti (by decide) (Nat.le_of_ble_eq_true rfl) ?_
    intro p ev s m args below meth cd A Q ls hC hQ hl hw
    have hx := hC.1.1
    have hb := hC.1.2.1
    have hl : lv_has ls 3 [(0, .ref (g 0)), (1, .int x), (2, .int y)] := hl
    refine lv_aload_n (pc := 0) hx hb d_X_sign_0 rfl (lv_at hl 0 rfl) ?_
    refine lv_iload_n (pc := 1) hx hb d_X_sign_1 rfl (lv_at hl 1 rfl) ?_
    refine g_calli (pc := 2) (as := [.int x]) (rest := []) hC hw (c_X_hasTerm_n l D g k tp tl sg ln _ ds hk) lm_X_hasTerm f_X_hasTerm rfl rfl rfl rfl ⟨by decide, by decide⟩ hl.1 (Nat.le_of_ble_eq_true rfl) d_X_sign_2 (fun r u1 H locs hp hw => ?_)
    obtain ⟨rfl, rfl⟩ := hp
    refine lv_if_eq (pc := 5) (tgt := 23) hx hb d_X_sign_5 (by decide) (fun hc5 => ?_) (fun hc5 => ?_)
    · refine lv_bipush (pc := 23) (v := (-2)) hx hb d_X_sign_23 (by decide) ?_
      exact hQ _ _ _ _ _ _ hw (rfl) (⟨asg_none hT, rfl⟩) d_X_sign_25
    · exact absurd rfl hc5
  · refine g_starti (by decide) (Nat.le_of_ble_eq_true rfl) ?_
    intro p ev s m args below meth cd A Q ls hC hQ hl hw
    have hx := hC.1.1
    have hb := hC.1.2.1
    have hl : lv_has ls 3 [(0, .ref (g 0)), (1, .int (nI j)), (2, .int y)] := hl
    obtain ⟨t1, t2, t3⟩ := ht j T hj2
    refine lv_aload_n (pc := 0) hx hb d_X_sign_0 rfl (lv_at hl 0 rfl) ?_
    refine lv_iload_n (pc := 1) hx hb d_X_sign_1 rfl (lv_at hl 1 rfl) ?_
    refine g_calli (pc := 2) (as := [.int (nI j)]) (rest := []) hC hw (c_X_hasTerm_y l D g k tp tl sg ln ds hj hlen) lm_X_hasTerm f_X_hasTerm rfl rfl rfl rfl ⟨by decide, by decide⟩ hl.1 (Nat.le_of_ble_eq_true rfl) d_X_sign_2 (fun r u1 H locs hp hw => ?_)
    obtain ⟨rfl, rfl⟩ := hp
    refine lv_if_eq (pc := 5) (tgt := 23) hx hb d_X_sign_5 (by decide) (fun hc5 => ?_) (fun hc5 => ?_)
    · exact absurd hc5 (by decide)
    · refine lv_iload_n (pc := 8) hx hb d_X_sign_8 rfl (lv_at hl 2 rfl) ?_
      refine lv_iconst (pc := 9) (v := (-1)) hx hb d_X_sign_9 (by decide) ?_
      refine lv_icmp_lt (pc := 10) (tgt := 23) hx hb d_X_sign_10 (by decide) (fun hc10 => ?_) (fun hc10 => ?_)
      · refine lv_bipush (pc := 23) (v := (-2)) hx hb d_X_sign_23 (by decide) ?_
        exact hQ _ _ _ _ _ _ hw (rfl) (⟨asg_lo hT hc10, rfl⟩) d_X_sign_25
      · refine lv_iload_n (pc := 13) hx hb d_X_sign_13 rfl (lv_at hl 2 rfl) ?_
        refine lv_aload_n (pc := 14) hx hb d_X_sign_14 rfl (lv_at hl 0 rfl) ?_
        refine xg_ln (pc := 15) hC hw d_X_sign_15 ?_
        refine lv_iload_n (pc := 18) hx hb d_X_sign_18 rfl (lv_at hl 1 rfl) ?_
        refine xl_ln (pc := 19) (i := j) (by omega) hC hw d_X_sign_19 ?_
        refine g_top (y := nI T.1) (t2) ?_
        refine lv_icmp_lt (pc := 20) (tgt := 26) hx hb d_X_sign_20 (by decide) (fun hc20 => ?_) (fun hc20 => ?_)
        · refine lv_iload_n (pc := 26) hx hb d_X_sign_26 rfl (lv_at hl 2 rfl) ?_
          refine lv_iconst (pc := 27) (v := (-1)) hx hb d_X_sign_27 (by decide) ?_
          refine lv_icmp_ne (pc := 28) (tgt := 40) hx hb d_X_sign_28 (by decide) (fun hc28 => ?_) (fun hc28 => ?_)
          · obtain ⟨z, hz, rfl⟩ := nI_of (ge0 hc10 hc28)
            have hz2 : z < T.1 := (nI_ltI hz (by omega)).mp hc20
            refine lv_aload_n (pc := 40) hx hb d_X_sign_40 rfl (lv_at hl 0 rfl) ?_
            refine lv_iload_n (pc := 41) hx hb d_X_sign_41 rfl (lv_at hl 1 rfl) ?_
            refine lv_iload_n (pc := 42) hx hb d_X_sign_42 rfl (lv_at hl 2 rfl) ?_
            refine g_calli (pc := 43) (as := [.int (nI j), .int (nI z)]) (rest := []) hC hw (c_X_signAt l D g k tp tl sg ln _ ds (a := j) (j := z) (by omega)) lm_X_signAt f_X_signAt rfl rfl rfl rfl ⟨by decide, by decide⟩ hl.1 (Nat.le_of_ble_eq_true rfl) d_X_sign_43 (fun r u1 H locs hp hw => ?_)
            obtain ⟨rfl, rfl⟩ := hp
            refine g_top (y := T.2 z) (t3 z hz2) ?_
            exact hQ _ _ _ _ _ _ hw (rfl) (⟨(congrArg T.2 (nI_clamp hz).symm).trans (asg_in hT hc10 (Int32.not_le.mpr hc20) hc28), rfl⟩) d_X_sign_46
          · refine lv_aload_n (pc := 31) hx hb d_X_sign_31 rfl (lv_at hl 0 rfl) ?_
            refine xg_ln (pc := 32) hC hw d_X_sign_32 ?_
            refine lv_iload_n (pc := 35) hx hb d_X_sign_35 rfl (lv_at hl 1 rfl) ?_
            refine xl_ln (pc := 36) (i := j) (by omega) hC hw d_X_sign_36 ?_
            refine g_top (y := nI T.1) (t2) ?_
            refine lv_goto (pc := 37) (tgt := 46) hx hb d_X_sign_37 (by decide) ?_
            exact hQ _ _ _ _ _ _ hw (rfl) (⟨asg_len hT hc10 (Int32.not_le.mpr hc20) hc28, rfl⟩) d_X_sign_46
        · refine lv_bipush (pc := 23) (v := (-2)) hx hb d_X_sign_23 (by decide) ?_
          exact hQ _ _ _ _ _ _ hw (rfl) (⟨asg_hi hT hc10 (Int32.not_lt.mp hc20), rfl⟩) d_X_sign_25
set_option maxHeartbeats 4000000 in
set_option maxRecDepth 100000 in
theorem c_Integer_compare (l : Launch) (D : va_G) (a b : Int32) : gMs l y_Integer_compare (gW y_Integer_compare b_Integer_compare 2 (some .int)) (gR 0) D [.int a, .int b] (if a < b then (-1 : Int32) else if a = b then 0 else 1) := by
  refine g_starti (by decide) (Nat.le_of_ble_eq_true rfl) ?_
  intro p ev s m args below meth cd A Q ls hC hQ hl hw
  have hx := hC.1.1
  have hb := hC.1.2.1
  have hl : lv_has ls 2 [(0, .int a), (1, .int b)] := hl
  refine lv_iload_n (pc := 0) hx hb d_Integer_compare_0 rfl (lv_at hl 0 rfl) ?_
  refine lv_iload_n (pc := 1) hx hb d_Integer_compare_1 rfl (lv_at hl 1 rfl) ?_
  refine lv_icmp_ge (pc := 2) (tgt := 9) hx hb d_Integer_compare_2 (by decide) (fun hc2 => ?_) (fun hc2 => ?_)
  · refine lv_iload_n (pc := 9) hx hb d_Integer_compare_9 rfl (lv_at hl 0 rfl) ?_
    refine lv_iload_n (pc := 10) hx hb d_Integer_compare_10 rfl (lv_at hl 1 rfl) ?_
    refine lv_icmp_ne (pc := 11) (tgt := 18) hx hb d_Integer_compare_11 (by decide) (fun hc11 => ?_) (fun hc11 => ?_)
    · refine lv_iconst (pc := 18) (v := 1) hx hb d_Integer_compare_18 (by decide) ?_
      exact hQ _ _ _ _ _ _ hw (rfl) (by rw [if_neg (Int32.not_lt.mpr hc2), if_neg hc11]) d_Integer_compare_19
    · refine lv_iconst (pc := 14) (v := 0) hx hb d_Integer_compare_14 (by decide) ?_
      refine lv_goto (pc := 15) (tgt := 19) hx hb d_Integer_compare_15 (by decide) ?_
      exact hQ _ _ _ _ _ _ hw (rfl) (by rw [if_neg (Int32.not_lt.mpr hc2), if_pos hc11]) d_Integer_compare_19
  · refine lv_iconst (pc := 5) (v := (-1)) hx hb d_Integer_compare_5 (by decide) ?_
    refine lv_goto (pc := 6) (tgt := 19) hx hb d_Integer_compare_6 (by decide) ?_
    exact hQ _ _ _ _ _ _ hw (rfl) (by rw [if_pos (Int32.not_le.mp hc2)]) d_Integer_compare_19
theorem mn_eq {a b : Nat} (ha : a < 2 ^ 31) (hb : b < 2 ^ 31) : (if nI b < nI a then nI b else nI a) = nI (min a b) := by
  by_cases h : b < a
  · rw [if_pos ((nI_ltI hb ha).mpr h), Nat.min_eq_right (by omega)]
  · rw [if_neg (fun q => h ((nI_ltI hb ha).mp q)), Nat.min_eq_left (by omega)]
/-- Integer.compare of two lengths -/
theorem icm_eq {a b : Nat} (ha : a < 2 ^ 31) (hb : b < 2 ^ 31) : (if nI a < nI b then (-1 : Int32) else if nI a = nI b then 0 else 1) = if a < b then -1 else if b < a then 1 else 0 := by
  by_cases h : a < b
  · rw [if_pos ((nI_ltI ha hb).mpr h), if_pos h]
  · rw [if_neg (fun q => h ((nI_ltI ha hb).mp q)), if_neg h]
    by_cases h2 : a = b
    · rw [if_pos (congrArg nI h2), if_neg (by omega)]
    · rw [if_neg (fun q => h2 ((nI_eq ha hb).mp q)), if_pos (by omega)]
set_option maxHeartbeats 4000000 in
set_option maxRecDepth 100000 in
theorem c_X_order (l : Launch) (D : va_G) (g : Nat → Nat) (k : Nat → ClassId) (tp : Nat → Int32) (tl : Int32) (sg ln : Nat → Int32) (tc : Int32) (ds : Nat → Int32) {a b : Nat} {T V : Tm} (ha : a < 151) (hb0 : b < 151) (hT : tat sg ln a T) (hV : tat sg ln b V) : gMi l y_X_order (gW y_X_order b_X_order 5 (some .int)) (gR 1) D (xT k) (xw g k) [.ref (g 0), .int (nI a), .int (nI b)] (tp, tl, sg, ln, tc, ds) (fun r u => r = od T V ∧ u = (tp, tl, sg, ln, tc, ds)) := by
  refine g_starti (by decide) (Nat.le_of_ble_eq_true rfl) ?_
  intro p ev s m args below meth cd A Q ls hC hQ hl hw
  have hx := hC.1.1
  have hb := hC.1.2.1
  have hl : lv_has ls 5 [(0, .ref (g 0)), (1, .int (nI a)), (2, .int (nI b))] := hl
  obtain ⟨t1, t2, t3⟩ := hT
  obtain ⟨v1, v2, v3⟩ := hV
  refine lv_aload_n (pc := 0) hx hb d_X_order_0 rfl (lv_at hl 0 rfl) ?_
  refine xg_ln (pc := 1) hC hw d_X_order_1 ?_
  refine lv_iload_n (pc := 4) hx hb d_X_order_4 rfl (lv_at hl 1 rfl) ?_
  refine xl_ln (pc := 5) (i := a) (by omega) hC hw d_X_order_5 ?_
  refine g_top (y := nI T.1) (t2) ?_
  refine lv_aload_n (pc := 6) hx hb d_X_order_6 rfl (lv_at hl 0 rfl) ?_
  refine xg_ln (pc := 7) hC hw d_X_order_7 ?_
  refine lv_iload_n (pc := 10) hx hb d_X_order_10 rfl (lv_at hl 2 rfl) ?_
  refine xl_ln (pc := 11) (i := b) (by omega) hC hw d_X_order_11 ?_
  refine g_top (y := nI V.1) (v2) ?_
  refine va_mmin (pc := 12) hx hb (hC.1.2.2.1.trans hl.1.symm) hC.1.2.2.2.1 (hC.1.2.2.2.2 _ lm_X_Math_min) (hC.1.2.2.2.2 _ i_Math_min_static) (hC.1.2.2.2.2 _ i_Math_init) (hC.1.2.2.2.2 _ i_Math_min_code) (by decide) (Nat.le_of_ble_eq_true rfl) (Nat.zero_le _) (Nat.zero_le _) d_X_order_12 ?_
  refine g_top (y := nI (min T.1 V.1)) (mn_eq (by omega) (by omega)) ?_
  refine lv_istore_n (pc := 15) hx hb d_X_order_15 rfl hl (by decide) rfl (fun ls hl => ?_)
  have hl : lv_has ls 5 [(3, .int (nI (min T.1 V.1))), (0, .ref (g 0)), (1, .int (nI a)), (2, .int (nI b))] := hl
  refine lv_iconst (pc := 16) (v := nI 0) hx hb d_X_order_16 (by decide) ?_
  refine lv_istore (pc := 17) hx hb d_X_order_17 hl (by decide) rfl (fun ls hl => ?_)
  have hl : lv_has ls 5 [(4, .int (nI 0)), (3, .int (nI (min T.1 V.1))), (0, .ref (g 0)), (1, .int (nI a)), (2, .int (nI b))] := hl
  have lp : ∀ (fu : Nat) (i : Nat) (ls : Array Slot) (H : Heap) (locs : List Loc), min T.1 V.1 - i < fu → lv_has ls 5 [(0, .ref (g 0)), (1, .int (nI a)), (2, .int (nI b)), (3, .int (nI (min T.1 V.1))), (4, .int (nI i))] → gH D (xw g k) A s.heap (tp, tl, sg, ln, tc, ds) H locs → (i ≤ min T.1 V.1) → (odr T.2 V.2 T.1 V.1 (min T.1 V.1 - i) i = od T V) → W p l ev (gR 1) s m args below meth cd H locs 0 0 Q (F0 m 19 ls []) := by
    intro fu
    induction fu with
    | zero => intro i ls H locs hn hl hw hi ho; exact absurd hn (Nat.not_lt_zero _)
    | succ fu ih =>
      intro i ls H locs hn hl hw hi ho
      refine lv_iload (pc := 19) hx hb d_X_order_19 (lv_at hl 4 rfl) ?_
      refine lv_iload_n (pc := 21) hx hb d_X_order_21 rfl (lv_at hl 3 rfl) ?_
      refine nc_ge (pc := 22) (tgt := 71) hx hb d_X_order_22 (by decide) (by omega) (by omega) (fun hc22 => ?_) (fun hc22 => ?_)
      · have e : i = min T.1 V.1 := by omega
        subst e
        rw [Nat.sub_self] at ho
        refine lv_aload_n (pc := 71) hx hb d_X_order_71 rfl (lv_at hl 0 rfl) ?_
        refine xg_ln (pc := 72) hC hw d_X_order_72 ?_
        refine lv_iload_n (pc := 75) hx hb d_X_order_75 rfl (lv_at hl 1 rfl) ?_
        refine xl_ln (pc := 76) (i := a) (by omega) hC hw d_X_order_76 ?_
        refine g_top (y := nI T.1) (t2) ?_
        refine lv_aload_n (pc := 77) hx hb d_X_order_77 rfl (lv_at hl 0 rfl) ?_
        refine xg_ln (pc := 78) hC hw d_X_order_78 ?_
        refine lv_iload_n (pc := 81) hx hb d_X_order_81 rfl (lv_at hl 2 rfl) ?_
        refine xl_ln (pc := 82) (i := b) (by omega) hC hw d_X_order_82 ?_
        refine g_top (y := nI V.1) (v2) ?_
        refine g_calls (pc := 83) (as := [.int (nI (T.1)), .int (nI (V.1))]) (rest := []) hC hw (c_Integer_compare l D (nI T.1) (nI V.1)) lm_X_Integer_compare f_Integer_compare rfl rfl ⟨by decide, by decide⟩ hl.1 (Nat.le_of_ble_eq_true rfl) d_X_order_83 (fun H locs hw => ?_)
        exact hQ _ _ _ _ _ _ hw (rfl) (⟨(icm_eq (by omega) (by omega)).trans ho, rfl⟩) d_X_order_86
      · have e : min T.1 V.1 - i = (min T.1 V.1 - (i + 1)) + 1 := by omega
        rw [e] at ho
        refine lv_aload_n (pc := 25) hx hb d_X_order_25 rfl (lv_at hl 0 rfl) ?_
        refine lv_iload_n (pc := 26) hx hb d_X_order_26 rfl (lv_at hl 1 rfl) ?_
        refine lv_iload (pc := 27) hx hb d_X_order_27 (lv_at hl 4 rfl) ?_
        refine g_calli (pc := 29) (as := [.int (nI a), .int (nI i)]) (rest := []) hC hw (c_X_signAt l D g k tp tl sg ln tc ds (a := a) (j := i) (by omega)) lm_X_signAt f_X_signAt rfl rfl rfl rfl ⟨by decide, by decide⟩ hl.1 (Nat.le_of_ble_eq_true rfl) d_X_order_29 (fun r u1 H locs hp hw => ?_)
        obtain ⟨rfl, rfl⟩ := hp
        refine g_top (y := T.2 i) (t3 i (by omega)) ?_
        refine lv_aload_n (pc := 32) hx hb d_X_order_32 rfl (lv_at hl 0 rfl) ?_
        refine lv_iload_n (pc := 33) hx hb d_X_order_33 rfl (lv_at hl 2 rfl) ?_
        refine lv_iload (pc := 34) hx hb d_X_order_34 (lv_at hl 4 rfl) ?_
        refine g_calli (pc := 36) (as := [.int (nI b), .int (nI i)]) (rest := [.int (T.2 i)]) hC hw (c_X_signAt l D g k tp tl sg ln tc ds (a := b) (j := i) (by omega)) lm_X_signAt f_X_signAt rfl rfl rfl rfl ⟨by decide, by decide⟩ hl.1 (Nat.le_of_ble_eq_true rfl) d_X_order_36 (fun r u1 H locs hp hw => ?_)
        obtain ⟨rfl, rfl⟩ := hp
        refine g_top (y := V.2 i) (v3 i (by omega)) ?_
        refine lv_icmp_eq (pc := 39) (tgt := 65) hx hb d_X_order_39 (by decide) (fun hc39 => ?_) (fun hc39 => ?_)
        · refine lv_iinc (pc := 65) (k := 4) (v := nI (i + 1)) hx hb d_X_order_65 hl rfl (nI_i1 i) (by decide) rfl (fun ls hl => ?_)
          have hl : lv_has ls 5 [(4, .int (nI (i + 1))), (0, .ref (g 0)), (1, .int (nI a)), (2, .int (nI b)), (3, .int (nI (min T.1 V.1)))] := hl
          refine lv_goto (pc := 68) (tgt := 19) hx hb d_X_order_68 (by decide) ?_
          refine ih (i + 1) _ _ _ (by omega) (lv_sub hl [1, 2, 3, 4, 0] rfl) hw (by omega) ?_
          rw [← ho]
          show _ = if T.2 i = V.2 i then _ else _
          rw [if_pos hc39]
        · refine lv_aload_n (pc := 42) hx hb d_X_order_42 rfl (lv_at hl 0 rfl) ?_
          refine lv_iload_n (pc := 43) hx hb d_X_order_43 rfl (lv_at hl 1 rfl) ?_
          refine lv_iload (pc := 44) hx hb d_X_order_44 (lv_at hl 4 rfl) ?_
          refine g_calli (pc := 46) (as := [.int (nI a), .int (nI i)]) (rest := []) hC hw (c_X_signAt l D g k tp tl sg ln tc ds (a := a) (j := i) (by omega)) lm_X_signAt f_X_signAt rfl rfl rfl rfl ⟨by decide, by decide⟩ hl.1 (Nat.le_of_ble_eq_true rfl) d_X_order_46 (fun r u1 H locs hp hw => ?_)
          obtain ⟨rfl, rfl⟩ := hp
          refine g_top (y := T.2 i) (t3 i (by omega)) ?_
          refine lv_aload_n (pc := 49) hx hb d_X_order_49 rfl (lv_at hl 0 rfl) ?_
          refine lv_iload_n (pc := 50) hx hb d_X_order_50 rfl (lv_at hl 2 rfl) ?_
          refine lv_iload (pc := 51) hx hb d_X_order_51 (lv_at hl 4 rfl) ?_
          refine g_calli (pc := 53) (as := [.int (nI b), .int (nI i)]) (rest := [.int (T.2 i)]) hC hw (c_X_signAt l D g k tp tl sg ln tc ds (a := b) (j := i) (by omega)) lm_X_signAt f_X_signAt rfl rfl rfl rfl ⟨by decide, by decide⟩ hl.1 (Nat.le_of_ble_eq_true rfl) d_X_order_53 (fun r u1 H locs hp hw => ?_)
          obtain ⟨rfl, rfl⟩ := hp
          refine g_top (y := V.2 i) (v3 i (by omega)) ?_
          refine lv_icmp_ge (pc := 56) (tgt := 63) hx hb d_X_order_56 (by decide) (fun hc56 => ?_) (fun hc56 => ?_)
          · refine lv_iconst (pc := 63) (v := 1) hx hb d_X_order_63 (by decide) ?_
            exact hQ _ _ _ _ _ _ hw (rfl) (⟨by rw [← ho]; show _ = if T.2 i = V.2 i then _ else _; rw [if_neg hc39, if_neg (Int32.not_lt.mpr hc56)], rfl⟩) d_X_order_64
          · refine lv_iconst (pc := 59) (v := (-1)) hx hb d_X_order_59 (by decide) ?_
            refine lv_goto (pc := 60) (tgt := 64) hx hb d_X_order_60 (by decide) ?_
            exact hQ _ _ _ _ _ _ hw (rfl) (⟨by rw [← ho]; show _ = if T.2 i = V.2 i then _ else _; rw [if_neg hc39, if_pos (Int32.not_le.mp hc56)], rfl⟩) d_X_order_64
  exact lp (min T.1 V.1 + 1) 0 _ _ _ (by omega) (lv_sub hl [2, 3, 4, 1, 0] rfl) hw (Nat.zero_le _) rfl
set_option maxHeartbeats 4000000 in
set_option maxRecDepth 100000 in
theorem c_X_firstSame (l : Launch) (D : va_G) (g : Nat → Nat) (k : Nat → ClassId) (tp : Nat → Int32) (tl : Int32) {sg ln : Nat → Int32} (tc : Int32) (ds : Nat → Int32) {ts : List Tm} {a : Nat} {T : Tm} (ht : tok ts sg ln) (hlen : ts.length ≤ 150) (hT : ts[a]? = some T) : gMi l y_X_firstSame (gW y_X_firstSame b_X_firstSame 3 (some .int)) (gR 2) D (xT k) (xw g k) [.ref (g 0), .int (nI a)] (tp, tl, sg, ln, tc, ds) (fun r u => r = nI (fst ts T a) ∧ u = (tp, tl, sg, ln, tc, ds)) := by
  refine g_starti (by decide) (Nat.le_of_ble_eq_true rfl) ?_
  intro p ev s m args below meth cd A Q ls hC hQ hl hw
  have hx := hC.1.1
  have hb := hC.1.2.1
  have hl : lv_has ls 3 [(0, .ref (g 0)), (1, .int (nI a))] := hl
  have ha := (List.getElem?_eq_some_iff.mp hT).1
  refine lv_iconst (pc := 0) (v := nI 0) hx hb d_X_firstSame_0 (by decide) ?_
  refine lv_istore_n (pc := 1) hx hb d_X_firstSame_1 rfl hl (by decide) rfl (fun ls hl => ?_)
  have hl : lv_has ls 3 [(2, .int (nI 0)), (0, .ref (g 0)), (1, .int (nI a))] := hl
  have lp : ∀ (fu : Nat) (j : Nat) (ls : Array Slot) (H : Heap) (locs : List Loc), a - j < fu → lv_has ls 3 [(0, .ref (g 0)), (1, .int (nI a)), (2, .int (nI j))] → gH D (xw g k) A s.heap (tp, tl, sg, ln, tc, ds) H locs → (j ≤ a) → (fsr ts T (a - j) j = fst ts T a) → W p l ev (gR 2) s m args below meth cd H locs 0 0 Q (F0 m 2 ls []) := by
    intro fu
    induction fu with
    | zero => intro j ls H locs hn hl hw hj ho; exact absurd hn (Nat.not_lt_zero _)
    | succ fu ih =>
      intro j ls H locs hn hl hw hj ho
      refine lv_iload_n (pc := 2) hx hb d_X_firstSame_2 rfl (lv_at hl 2 rfl) ?_
      refine lv_iload_n (pc := 3) hx hb d_X_firstSame_3 rfl (lv_at hl 1 rfl) ?_
      refine nc_ge (pc := 4) (tgt := 24) hx hb d_X_firstSame_4 (by decide) (by omega) (by omega) (fun hc4 => ?_) (fun hc4 => ?_)
      · have e : j = a := by omega
        subst e
        rw [Nat.sub_self] at ho
        refine lv_iload_n (pc := 24) hx hb d_X_firstSame_24 rfl (lv_at hl 1 rfl) ?_
        exact hQ _ _ _ _ _ _ hw (rfl) (⟨congrArg nI ho, rfl⟩) d_X_firstSame_25
      · have e : a - j = (a - (j + 1)) + 1 := by omega
        rw [e] at ho
        have hU : ts[j]? = some ts[j] := List.getElem?_eq_getElem (by omega)
        refine lv_aload_n (pc := 7) hx hb d_X_firstSame_7 rfl (lv_at hl 0 rfl) ?_
        refine lv_iload_n (pc := 8) hx hb d_X_firstSame_8 rfl (lv_at hl 2 rfl) ?_
        refine lv_iload_n (pc := 9) hx hb d_X_firstSame_9 rfl (lv_at hl 1 rfl) ?_
        refine g_calli (pc := 10) (as := [.int (nI j), .int (nI a)]) (rest := []) hC hw (c_X_order l D g k tp tl sg ln tc ds (a := j) (b := a) (by omega) (by omega) (ht j _ hU) (ht a _ hT)) lm_X_order f_X_order rfl rfl rfl rfl ⟨by decide, by decide⟩ hl.1 (Nat.le_of_ble_eq_true rfl) d_X_firstSame_10 (fun r u1 H locs hp hw => ?_)
        obtain ⟨rfl, rfl⟩ := hp
        refine lv_if_ne (pc := 13) (tgt := 18) hx hb d_X_firstSame_13 (by decide) (fun hc13 => ?_) (fun hc13 => ?_)
        · refine lv_iinc (pc := 18) (k := 2) (v := nI (j + 1)) hx hb d_X_firstSame_18 hl rfl (nI_i1 j) (by decide) rfl (fun ls hl => ?_)
          have hl : lv_has ls 3 [(2, .int (nI (j + 1))), (0, .ref (g 0)), (1, .int (nI a))] := hl
          refine lv_goto (pc := 21) (tgt := 2) hx hb d_X_firstSame_21 (by decide) ?_
          rw [fsr_n hU hc13] at ho
          exact ih (j + 1) _ _ _ (by omega) (lv_sub hl [1, 2, 0] rfl) hw (by omega) ho
        · rw [fsr_y hU hc13] at ho
          refine lv_iload_n (pc := 16) hx hb d_X_firstSame_16 rfl (lv_at hl 2 rfl) ?_
          exact hQ _ _ _ _ _ _ hw (rfl) (⟨congrArg nI ho, rfl⟩) d_X_firstSame_17
  exact lp (a + 1) 0 _ _ _ (by omega) (lv_sub hl [1, 2, 0] rfl) hw (Nat.zero_le _) rfl
end
section
theorem cpy_wrt {tp sg ln : Nat → Int32} {a b j : Nat} : wrt sg ln (va_cpy tp sg a (24 * j) (min (b - a) 24)) (upd ln j (nI (min (b - a) 24))) j (pln (fun i => tp (a + i)) (b - a)) := by
  refine ⟨pln_le _ _, rfl, fun i hi => ?_, fun q hq => ?_⟩
  · have hi : i < min (b - a) 24 := hi
    rw [pk_cpy_in (by omega) (by omega)]
    show tp _ = tp _
    congr 1
    omega
  · exact pk_cpy_out (by omega)
set_option maxHeartbeats 4000000 in
set_option maxRecDepth 100000 in
theorem c_X_writeSigns (l : Launch) (D : va_G) (g : Nat → Nat) (k : Nat → ClassId) (tp : Nat → Int32) (tl : Int32) (sg ln : Nat → Int32) (tc : Int32) (ds : Nat → Int32) {j a b : Nat} (hj : j < 151) (hab : a ≤ b) (hb0 : b ≤ 300) (hby : ∀ i, a ≤ i → i < b → by_ok (tp i)) : gMv l y_X_writeSigns (gW y_X_writeSigns b_X_writeSigns 5 none) (gR 2) D (xT k) (xw g k) [.ref (g 0), .int (nI j), .int (nI a), .int (nI b)] (tp, tl, sg, ln, tc, ds) (fun u => ∃ sg1 ln1, u = (tp, tl, sg1, ln1, tc, ds) ∧ wrt sg ln sg1 ln1 j (pln (fun i => tp (a + i)) (b - a))) := by
  refine g_startv (by decide) (Nat.le_of_ble_eq_true rfl) ?_
  intro p ev s m args below meth cd A Q ls hC hQ hl hw
  have hx := hC.1.1
  have hb := hC.1.2.1
  have hl : lv_has ls 5 [(0, .ref (g 0)), (1, .int (nI j)), (2, .int (nI a)), (3, .int (nI b))] := hl
  refine lv_iload_n (pc := 0) hx hb d_X_writeSigns_0 rfl (lv_at hl 3 rfl) ?_
  refine lv_iload_n (pc := 1) hx hb d_X_writeSigns_1 rfl (lv_at hl 2 rfl) ?_
  refine lv_isub (pc := 2) hx hb d_X_writeSigns_2 ?_
  refine g_top (y := nI (b - a)) (pk_sub (by omega)) ?_
  refine lv_bipush (pc := 3) (v := nI 24) hx hb d_X_writeSigns_3 (by decide) ?_
  refine va_mmin (pc := 5) hx hb (hC.1.2.2.1.trans hl.1.symm) hC.1.2.2.2.1 (hC.1.2.2.2.2 _ lm_X_Math_min) (hC.1.2.2.2.2 _ i_Math_min_static) (hC.1.2.2.2.2 _ i_Math_init) (hC.1.2.2.2.2 _ i_Math_min_code) (by decide) (Nat.le_of_ble_eq_true rfl) (Nat.zero_le _) (Nat.zero_le _) d_X_writeSigns_5 ?_
  refine g_top (y := nI (min (b - a) 24)) (mn_eq (by omega) (by omega)) ?_
  refine lv_istore (pc := 8) hx hb d_X_writeSigns_8 hl (by decide) rfl (fun ls hl => ?_)
  have hl : lv_has ls 5 [(4, .int (nI (min (b - a) 24))), (0, .ref (g 0)), (1, .int (nI j)), (2, .int (nI a)), (3, .int (nI b))] := hl
  refine lv_aload_n (pc := 10) hx hb d_X_writeSigns_10 rfl (lv_at hl 1 rfl) ?_
  refine xg_tp (pc := 11) hC hw d_X_writeSigns_11 ?_
  refine lv_iload_n (pc := 14) hx hb d_X_writeSigns_14 rfl (lv_at hl 3 rfl) ?_
  refine lv_aload_n (pc := 15) hx hb d_X_writeSigns_15 rfl (lv_at hl 1 rfl) ?_
  refine xg_sg (pc := 16) hC hw d_X_writeSigns_16 ?_
  refine lv_iload_n (pc := 19) hx hb d_X_writeSigns_19 rfl (lv_at hl 2 rfl) ?_
  refine lv_bipush (pc := 20) (v := nI 24) hx hb d_X_writeSigns_20 (by decide) ?_
  refine lv_imul (pc := 22) hx hb d_X_writeSigns_22 ?_
  refine g_top (y := nI (24 * j)) ((pk_mul _ _).trans (congrArg nI (Nat.mul_comm _ _))) ?_
  refine lv_iload (pc := 23) hx hb d_X_writeSigns_23 (lv_at hl 0 rfl) ?_
  have q1 : (nI a).toNatClampNeg = a := nI_clamp (by omega)
  have q2 : (nI (24 * j)).toNatClampNeg = 24 * j := nI_clamp (by omega)
  have q3 : (nI (min (b - a) 24)).toNatClampNeg = min (b - a) 24 := nI_clamp (by omega)
  refine va_copyi (pc := 25) (D := D) (cl := classes) (ws := xw g k (tp, tl, sg, ln, tc, ds)) (ty := .byte) hx hb (hC.1.2.2.1.trans hl.1.symm) hC.1.2.2.2.1 (hC.1.2.2.2.2 _ lm_X_System_arraycopy) (hC.1.2.2.2.2 _ i_arraycopy_native) (hC.1.2.2.2.2 _ i_arraycopy_static) (hC.1.2.2.2.2 _ i_System_init) hC.2.2.1 hw.1 hw.2.1 hw.2.2 1 2 0 1 rfl rfl rfl rfl rfl (nI_pos (by omega)) (nI_pos (by omega)) (nI_pos (by omega)) (by rw [q1, q3]; omega) (by rw [q2, q3]; omega) (fun i hi => by rw [q3] at hi; rw [q1]; exact by_fit (hby _ (by omega) (by omega))) (by decide) (by decide) d_X_writeSigns_25 (fun H locs hP hD hS => ?_)
  rw [q1, q2, q3] at hP hD
  have hw : gH D (xw g k) A s.heap (tp, tl, (va_cpy tp sg a (24 * j) (min (b - a) 24)), ln, tc, ds) H locs := ⟨hP, hD, hS⟩
  refine lv_aload_n (pc := 28) hx hb d_X_writeSigns_28 rfl (lv_at hl 1 rfl) ?_
  refine xg_ln (pc := 29) hC hw d_X_writeSigns_29 ?_
  refine lv_iload_n (pc := 32) hx hb d_X_writeSigns_32 rfl (lv_at hl 2 rfl) ?_
  refine lv_iload (pc := 33) hx hb d_X_writeSigns_33 (lv_at hl 0 rfl) ?_
  refine xs_ln (pc := 35) (i := j) (x := nI (min (b - a) 24)) (by omega) hC hw d_X_writeSigns_35 (fun H locs hw => ?_)
  exact hQ _ _ _ _ _ hw (⟨_, _, rfl, cpy_wrt⟩) d_X_writeSigns_36
theorem stm_ies {tp : Nat → Int32} {a b : Nat} (h5 : 5 ≤ b - a) (h : tp (b - 3) = 105 ∧ tp (b - 2) = 101 ∧ tp (b - 1) = 115) : stm (fun i => tp (a + i)) (b - a) = pln (fun i => if i = b - a - 3 then 121 else tp (a + i)) (b - a - 2) := by
  unfold stm
  rw [if_pos]
  unfold ies
  rw [decide_eq_true_eq]
  dsimp only
  rw [show a + (b - a - 1) = b - 1 by omega, show a + (b - a - 2) = b - 2 by omega, show a + (b - a - 3) = b - 3 by omega]
  exact ⟨h5, h.2.2, h.2.1, h.1⟩
theorem no_ies {tp : Nat → Int32} {a b : Nat} (hab : a ≤ b) (h : ¬ (5 ≤ b - a ∧ tp (b - 3) = 105 ∧ tp (b - 2) = 101 ∧ tp (b - 1) = 115)) : ¬ ies (fun i => tp (a + i)) (b - a) = true := by
  unfold ies
  rw [decide_eq_true_eq]
  dsimp only
  intro ⟨q1, q2, q3, q4⟩
  rw [show a + (b - a - 1) = b - 1 by omega] at q2
  rw [show a + (b - a - 2) = b - 2 by omega] at q3
  rw [show a + (b - a - 3) = b - 3 by omega] at q4
  exact h ⟨q1, q4, q3, q2⟩
theorem stm_los {tp : Nat → Int32} {a b : Nat} (hab : a ≤ b) (hi : ¬ ies (fun i => tp (a + i)) (b - a) = true) (h4 : 4 ≤ b - a) (h : tp (b - 1) = 115 ∧ tp (b - 2) ≠ 115 ∧ tp (b - 2) ≠ 117) : stm (fun i => tp (a + i)) (b - a) = pln (fun i => tp (a + i)) (b - a - 1) := by
  unfold stm
  rw [if_neg hi, if_pos]
  unfold los
  rw [decide_eq_true_eq]
  dsimp only
  rw [show a + (b - a - 1) = b - 1 by omega, show a + (b - a - 2) = b - 2 by omega]
  exact ⟨h4, h⟩
theorem stm_pl {tp : Nat → Int32} {a b : Nat} (hab : a ≤ b) (hi : ¬ ies (fun i => tp (a + i)) (b - a) = true) (h : ¬ (4 ≤ b - a ∧ tp (b - 1) = 115 ∧ tp (b - 2) ≠ 115 ∧ tp (b - 2) ≠ 117)) : stm (fun i => tp (a + i)) (b - a) = pln (fun i => tp (a + i)) (b - a) := by
  unfold stm
  rw [if_neg hi, if_neg]
  unfold los
  rw [decide_eq_true_eq]
  dsimp only
  intro ⟨q1, q2, q3⟩
  rw [show a + (b - a - 1) = b - 1 by omega] at q2
  rw [show a + (b - a - 2) = b - 2 by omega] at q3
  exact h ⟨q1, q2, q3⟩
theorem bI_1 {x : Bool} (h : ¬ bI x = 0) : x = true := by
  cases x
  · exact absurd rfl h
  · rfl
theorem bI_0 {x : Bool} (h : bI x = 0) : x = false := by
  cases x
  · rfl
  · exact absurd h (by decide)
set_option maxHeartbeats 4000000 in
set_option maxRecDepth 100000 in
theorem c_X_writeTerm (l : Launch) (D : va_G) (g : Nat → Nat) (k : Nat → ClassId) (tp : Nat → Int32) (tl : Int32) (sg ln : Nat → Int32) (tc : Int32) (ds : Nat → Int32) {j a b : Nat} (hj : j < 151) (hab : a ≤ b) (hb0 : b ≤ 300) (hby : ∀ i, a ≤ i → i < b → by_ok (tp i)) : gMv l y_X_writeTerm (gW y_X_writeTerm b_X_writeTerm 5 none) (gR 3) D (xT k) (xw g k) [.ref (g 0), .int (nI j), .int (nI a), .int (nI b)] (tp, tl, sg, ln, tc, ds) (fun u => ∃ tp1 sg1 ln1, u = (tp1, tl, sg1, ln1, tc, ds) ∧ wrt sg ln sg1 ln1 j (stm (fun i => tp (a + i)) (b - a)) ∧ ∀ i, (i < a ∨ b ≤ i) → tp1 i = tp i) := by
  refine g_startv (by decide) (Nat.le_of_ble_eq_true rfl) ?_
  intro p ev s m args below meth cd A Q ls hC hQ hl hw
  have hx := hC.1.1
  have hb := hC.1.2.1
  have hl : lv_has ls 5 [(0, .ref (g 0)), (1, .int (nI j)), (2, .int (nI a)), (3, .int (nI b))] := hl
  refine lv_iload_n (pc := 0) hx hb d_X_writeTerm_0 rfl (lv_at hl 3 rfl) ?_
  refine lv_iload_n (pc := 1) hx hb d_X_writeTerm_1 rfl (lv_at hl 2 rfl) ?_
  refine lv_isub (pc := 2) hx hb d_X_writeTerm_2 ?_
  refine g_top (y := nI (b - a)) (pk_sub (by omega)) ?_
  refine lv_istore (pc := 3) hx hb d_X_writeTerm_3 hl (by decide) rfl (fun ls hl => ?_)
  have hl : lv_has ls 5 [(4, .int (nI (b - a))), (0, .ref (g 0)), (1, .int (nI j)), (2, .int (nI a)), (3, .int (nI b))] := hl
  refine lv_iload (pc := 5) hx hb d_X_writeTerm_5 (lv_at hl 0 rfl) ?_
  refine lv_iconst (pc := 7) (v := nI 5) hx hb d_X_writeTerm_7 (by decide) ?_
  refine nc_lt (pc := 8) (tgt := 41) hx hb d_X_writeTerm_8 (by decide) (by omega) (by omega) (fun hc8 => ?_) (fun hc8 => ?_)
  · have hni : ¬ ies (fun i => tp (a + i)) (b - a) = true := no_ies hab (fun q => absurd q.1 (by omega))
    refine lv_iload (pc := 41) hx hb d_X_writeTerm_41 (lv_at hl 0 rfl) ?_
    refine lv_iconst (pc := 43) (v := nI 4) hx hb d_X_writeTerm_43 (by decide) ?_
    refine nc_lt (pc := 44) (tgt := 67) hx hb d_X_writeTerm_44 (by decide) (by omega) (by omega) (fun hc44 => ?_) (fun hc44 => ?_)
    · refine lv_aload_n (pc := 67) hx hb d_X_writeTerm_67 rfl (lv_at hl 1 rfl) ?_
      refine lv_iload_n (pc := 68) hx hb d_X_writeTerm_68 rfl (lv_at hl 2 rfl) ?_
      refine lv_iload_n (pc := 69) hx hb d_X_writeTerm_69 rfl (lv_at hl 3 rfl) ?_
      refine lv_iload_n (pc := 70) hx hb d_X_writeTerm_70 rfl (lv_at hl 4 rfl) ?_
      refine g_callv (pc := 71) (as := [.int (nI j), .int (nI a), .int (nI b)]) (rest := []) hC hw (c_X_writeSigns l D g k tp tl sg ln tc ds (j := j) (a := a) (b := b) hj (by omega) (by omega) (hby)) lm_X_writeSigns f_X_writeSigns rfl rfl rfl rfl ⟨by decide, by decide⟩ hl.1 (Nat.le_of_ble_eq_true rfl) d_X_writeTerm_71 (fun u1 H locs hp hw => ?_)
      obtain ⟨sg1, ln1, rfl, hwr⟩ := hp
      exact hQ _ _ _ _ _ hw (⟨tp, sg1, ln1, rfl, by rw [stm_pl hab hni (fun q => absurd q.1 (by omega))]; exact hwr, fun _ _ => rfl⟩) d_X_writeTerm_74
    · refine lv_aload_n (pc := 47) hx hb d_X_writeTerm_47 rfl (lv_at hl 1 rfl) ?_
      refine lv_iload_n (pc := 48) hx hb d_X_writeTerm_48 rfl (lv_at hl 4 rfl) ?_
      refine g_calli (pc := 49) (as := [.int (nI b)]) (rest := []) hC hw (c_X_endsWithLooseS l D g k tp tl sg ln tc ds (t := b) (by omega) hb0) lm_X_endsWithLooseS f_X_endsWithLooseS rfl rfl rfl rfl ⟨by decide, by decide⟩ hl.1 (Nat.le_of_ble_eq_true rfl) d_X_writeTerm_49 (fun r u1 H locs hp hw => ?_)
      obtain ⟨rfl, rfl⟩ := hp
      refine lv_if_eq (pc := 52) (tgt := 67) hx hb d_X_writeTerm_52 (by decide) (fun hc52 => ?_) (fun hc52 => ?_)
      · refine lv_aload_n (pc := 67) hx hb d_X_writeTerm_67 rfl (lv_at hl 1 rfl) ?_
        refine lv_iload_n (pc := 68) hx hb d_X_writeTerm_68 rfl (lv_at hl 2 rfl) ?_
        refine lv_iload_n (pc := 69) hx hb d_X_writeTerm_69 rfl (lv_at hl 3 rfl) ?_
        refine lv_iload_n (pc := 70) hx hb d_X_writeTerm_70 rfl (lv_at hl 4 rfl) ?_
        refine g_callv (pc := 71) (as := [.int (nI j), .int (nI a), .int (nI b)]) (rest := []) hC hw (c_X_writeSigns l D g k tp tl sg ln tc ds (j := j) (a := a) (b := b) hj (by omega) (by omega) (hby)) lm_X_writeSigns f_X_writeSigns rfl rfl rfl rfl ⟨by decide, by decide⟩ hl.1 (Nat.le_of_ble_eq_true rfl) d_X_writeTerm_71 (fun u1 H locs hp hw => ?_)
        obtain ⟨sg1, ln1, rfl, hwr⟩ := hp
        exact hQ _ _ _ _ _ hw (⟨tp, sg1, ln1, rfl, by rw [stm_pl hab hni (fun q => (of_decide_eq_false (bI_0 hc52)) q.2)]; exact hwr, fun _ _ => rfl⟩) d_X_writeTerm_74
      · have hy := of_decide_eq_true (bI_1 hc52)
        refine lv_aload_n (pc := 55) hx hb d_X_writeTerm_55 rfl (lv_at hl 1 rfl) ?_
        refine lv_iload_n (pc := 56) hx hb d_X_writeTerm_56 rfl (lv_at hl 2 rfl) ?_
        refine lv_iload_n (pc := 57) hx hb d_X_writeTerm_57 rfl (lv_at hl 3 rfl) ?_
        refine lv_iload_n (pc := 58) hx hb d_X_writeTerm_58 rfl (lv_at hl 4 rfl) ?_
        refine lv_iconst (pc := 59) (v := nI 1) hx hb d_X_writeTerm_59 (by decide) ?_
        refine lv_isub (pc := 60) hx hb d_X_writeTerm_60 ?_
        refine g_top (y := nI (b - 1)) (pk_sub (by omega)) ?_
        refine g_callv (pc := 61) (as := [.int (nI j), .int (nI a), .int (nI (b - 1))]) (rest := []) hC hw (c_X_writeSigns l D g k tp tl sg ln tc ds (j := j) (a := a) (b := b - 1) hj (by omega) (by omega) (fun i h1 h2 => hby i h1 (by omega))) lm_X_writeSigns f_X_writeSigns rfl rfl rfl rfl ⟨by decide, by decide⟩ hl.1 (Nat.le_of_ble_eq_true rfl) d_X_writeTerm_61 (fun u1 H locs hp hw => ?_)
        obtain ⟨sg1, ln1, rfl, hwr⟩ := hp
        refine lv_goto (pc := 64) (tgt := 74) hx hb d_X_writeTerm_64 (by decide) ?_
        exact hQ _ _ _ _ _ hw (⟨tp, sg1, ln1, rfl, by rw [stm_los hab hni (by omega) hy, show b - a - 1 = b - 1 - a by omega]; exact hwr, fun _ _ => rfl⟩) d_X_writeTerm_74
  · refine lv_aload_n (pc := 11) hx hb d_X_writeTerm_11 rfl (lv_at hl 1 rfl) ?_
    refine lv_iload_n (pc := 12) hx hb d_X_writeTerm_12 rfl (lv_at hl 4 rfl) ?_
    refine g_calli (pc := 13) (as := [.int (nI b)]) (rest := []) hC hw (c_X_endsWithIes l D g k tp tl sg ln tc ds (t := b) (by omega) hb0) lm_X_endsWithIes f_X_endsWithIes rfl rfl rfl rfl ⟨by decide, by decide⟩ hl.1 (Nat.le_of_ble_eq_true rfl) d_X_writeTerm_13 (fun r u1 H locs hp hw => ?_)
    obtain ⟨rfl, rfl⟩ := hp
    refine lv_if_eq (pc := 16) (tgt := 41) hx hb d_X_writeTerm_16 (by decide) (fun hc16 => ?_) (fun hc16 => ?_)
    · have hni : ¬ ies (fun i => tp (a + i)) (b - a) = true := no_ies hab (fun q => (of_decide_eq_false (bI_0 hc16)) q.2)
      refine lv_iload (pc := 41) hx hb d_X_writeTerm_41 (lv_at hl 0 rfl) ?_
      refine lv_iconst (pc := 43) (v := nI 4) hx hb d_X_writeTerm_43 (by decide) ?_
      refine nc_lt (pc := 44) (tgt := 67) hx hb d_X_writeTerm_44 (by decide) (by omega) (by omega) (fun hc44 => ?_) (fun hc44 => ?_)
      · refine lv_aload_n (pc := 67) hx hb d_X_writeTerm_67 rfl (lv_at hl 1 rfl) ?_
        refine lv_iload_n (pc := 68) hx hb d_X_writeTerm_68 rfl (lv_at hl 2 rfl) ?_
        refine lv_iload_n (pc := 69) hx hb d_X_writeTerm_69 rfl (lv_at hl 3 rfl) ?_
        refine lv_iload_n (pc := 70) hx hb d_X_writeTerm_70 rfl (lv_at hl 4 rfl) ?_
        refine g_callv (pc := 71) (as := [.int (nI j), .int (nI a), .int (nI b)]) (rest := []) hC hw (c_X_writeSigns l D g k tp tl sg ln tc ds (j := j) (a := a) (b := b) hj (by omega) (by omega) (hby)) lm_X_writeSigns f_X_writeSigns rfl rfl rfl rfl ⟨by decide, by decide⟩ hl.1 (Nat.le_of_ble_eq_true rfl) d_X_writeTerm_71 (fun u1 H locs hp hw => ?_)
        obtain ⟨sg1, ln1, rfl, hwr⟩ := hp
        exact hQ _ _ _ _ _ hw (⟨tp, sg1, ln1, rfl, by rw [stm_pl hab hni (fun q => absurd q.1 (by omega))]; exact hwr, fun _ _ => rfl⟩) d_X_writeTerm_74
      · refine lv_aload_n (pc := 47) hx hb d_X_writeTerm_47 rfl (lv_at hl 1 rfl) ?_
        refine lv_iload_n (pc := 48) hx hb d_X_writeTerm_48 rfl (lv_at hl 4 rfl) ?_
        refine g_calli (pc := 49) (as := [.int (nI b)]) (rest := []) hC hw (c_X_endsWithLooseS l D g k tp tl sg ln tc ds (t := b) (by omega) hb0) lm_X_endsWithLooseS f_X_endsWithLooseS rfl rfl rfl rfl ⟨by decide, by decide⟩ hl.1 (Nat.le_of_ble_eq_true rfl) d_X_writeTerm_49 (fun r u1 H locs hp hw => ?_)
        obtain ⟨rfl, rfl⟩ := hp
        refine lv_if_eq (pc := 52) (tgt := 67) hx hb d_X_writeTerm_52 (by decide) (fun hc52 => ?_) (fun hc52 => ?_)
        · refine lv_aload_n (pc := 67) hx hb d_X_writeTerm_67 rfl (lv_at hl 1 rfl) ?_
          refine lv_iload_n (pc := 68) hx hb d_X_writeTerm_68 rfl (lv_at hl 2 rfl) ?_
          refine lv_iload_n (pc := 69) hx hb d_X_writeTerm_69 rfl (lv_at hl 3 rfl) ?_
          refine lv_iload_n (pc := 70) hx hb d_X_writeTerm_70 rfl (lv_at hl 4 rfl) ?_
          refine g_callv (pc := 71) (as := [.int (nI j), .int (nI a), .int (nI b)]) (rest := []) hC hw (c_X_writeSigns l D g k tp tl sg ln tc ds (j := j) (a := a) (b := b) hj (by omega) (by omega) (hby)) lm_X_writeSigns f_X_writeSigns rfl rfl rfl rfl ⟨by decide, by decide⟩ hl.1 (Nat.le_of_ble_eq_true rfl) d_X_writeTerm_71 (fun u1 H locs hp hw => ?_)
          obtain ⟨sg1, ln1, rfl, hwr⟩ := hp
          exact hQ _ _ _ _ _ hw (⟨tp, sg1, ln1, rfl, by rw [stm_pl hab hni (fun q => (of_decide_eq_false (bI_0 hc52)) q.2)]; exact hwr, fun _ _ => rfl⟩) d_X_writeTerm_74
        · have hy := of_decide_eq_true (bI_1 hc52)
          refine lv_aload_n (pc := 55) hx hb d_X_writeTerm_55 rfl (lv_at hl 1 rfl) ?_
          refine lv_iload_n (pc := 56) hx hb d_X_writeTerm_56 rfl (lv_at hl 2 rfl) ?_
          refine lv_iload_n (pc := 57) hx hb d_X_writeTerm_57 rfl (lv_at hl 3 rfl) ?_
          refine lv_iload_n (pc := 58) hx hb d_X_writeTerm_58 rfl (lv_at hl 4 rfl) ?_
          refine lv_iconst (pc := 59) (v := nI 1) hx hb d_X_writeTerm_59 (by decide) ?_
          refine lv_isub (pc := 60) hx hb d_X_writeTerm_60 ?_
          refine g_top (y := nI (b - 1)) (pk_sub (by omega)) ?_
          refine g_callv (pc := 61) (as := [.int (nI j), .int (nI a), .int (nI (b - 1))]) (rest := []) hC hw (c_X_writeSigns l D g k tp tl sg ln tc ds (j := j) (a := a) (b := b - 1) hj (by omega) (by omega) (fun i h1 h2 => hby i h1 (by omega))) lm_X_writeSigns f_X_writeSigns rfl rfl rfl rfl ⟨by decide, by decide⟩ hl.1 (Nat.le_of_ble_eq_true rfl) d_X_writeTerm_61 (fun u1 H locs hp hw => ?_)
          obtain ⟨sg1, ln1, rfl, hwr⟩ := hp
          refine lv_goto (pc := 64) (tgt := 74) hx hb d_X_writeTerm_64 (by decide) ?_
          exact hQ _ _ _ _ _ hw (⟨tp, sg1, ln1, rfl, by rw [stm_los hab hni (by omega) hy, show b - a - 1 = b - 1 - a by omega]; exact hwr, fun _ _ => rfl⟩) d_X_writeTerm_74
    · have hy := of_decide_eq_true (bI_1 hc16)
      refine lv_aload_n (pc := 19) hx hb d_X_writeTerm_19 rfl (lv_at hl 1 rfl) ?_
      refine xg_tp (pc := 20) hC hw d_X_writeTerm_20 ?_
      refine lv_iload_n (pc := 23) hx hb d_X_writeTerm_23 rfl (lv_at hl 4 rfl) ?_
      refine lv_iconst (pc := 24) (v := nI 3) hx hb d_X_writeTerm_24 (by decide) ?_
      refine lv_isub (pc := 25) hx hb d_X_writeTerm_25 ?_
      refine g_top (y := nI (b - 3)) (pk_sub (by omega)) ?_
      refine lv_bipush (pc := 26) (v := 121) hx hb d_X_writeTerm_26 (by decide) ?_
      refine xs_tp (pc := 28) (i := b - 3) (x := 121) (by omega) (by decide) hC hw d_X_writeTerm_28 (fun H locs hw => ?_)
      refine lv_aload_n (pc := 29) hx hb d_X_writeTerm_29 rfl (lv_at hl 1 rfl) ?_
      refine lv_iload_n (pc := 30) hx hb d_X_writeTerm_30 rfl (lv_at hl 2 rfl) ?_
      refine lv_iload_n (pc := 31) hx hb d_X_writeTerm_31 rfl (lv_at hl 3 rfl) ?_
      refine lv_iload_n (pc := 32) hx hb d_X_writeTerm_32 rfl (lv_at hl 4 rfl) ?_
      refine lv_iconst (pc := 33) (v := nI 2) hx hb d_X_writeTerm_33 (by decide) ?_
      refine lv_isub (pc := 34) hx hb d_X_writeTerm_34 ?_
      refine g_top (y := nI (b - 2)) (pk_sub (by omega)) ?_
      refine g_callv (pc := 35) (as := [.int (nI j), .int (nI a), .int (nI (b - 2))]) (rest := []) hC hw (c_X_writeSigns l D g k (upd tp (b - 3) 121) tl sg ln tc ds (j := j) (a := a) (b := b - 2) hj (by omega) (by omega) (fun i h1 h2 => by
          by_cases e : i = b - 3
          · rw [e, pk_us]; exact (by decide : (121 : Int32).toInt8.toInt32 = 121)
          · rw [pk_un e]; exact hby i h1 (by omega))) lm_X_writeSigns f_X_writeSigns rfl rfl rfl rfl ⟨by decide, by decide⟩ hl.1 (Nat.le_of_ble_eq_true rfl) d_X_writeTerm_35 (fun u1 H locs hp hw => ?_)
      obtain ⟨sg1, ln1, rfl, hwr⟩ := hp
      refine lv_goto (pc := 38) (tgt := 74) hx hb d_X_writeTerm_38 (by decide) ?_
      refine hQ _ _ _ _ _ hw ⟨_, sg1, ln1, rfl, ?_, fun i hi => pk_un (by omega)⟩ d_X_writeTerm_74
      rw [stm_ies (by omega) hy, show b - a - 2 = b - 2 - a by omega]
      refine wrt_ext hwr rfl (fun i hi => ?_)
      have hi : i < min (b - 2 - a) 24 := hi
      show upd tp (b - 3) 121 (a + i) = if i = b - a - 3 then 121 else tp (a + i)
      by_cases e : i = b - a - 3
      · rw [if_pos e, show a + i = b - 3 by omega, pk_us]
      · rw [if_neg e, pk_un (by omega)]
set_option maxHeartbeats 4000000 in
set_option maxRecDepth 100000 in
theorem c_X_addTerm (l : Launch) (D : va_G) (g : Nat → Nat) (k : Nat → ClassId) (tp : Nat → Int32) (tl : Int32) (sg ln : Nat → Int32) (ds : Nat → Int32) {c a b : Nat} (hcn : c < 150) (hab : a ≤ b) (hb0 : b ≤ 300) (hby : ∀ i, a ≤ i → i < b → by_ok (tp i)) : gMv l y_X_addTerm (gW y_X_addTerm b_X_addTerm 3 none) (gR 4) D (xT k) (xw g k) [.ref (g 0), .int (nI a), .int (nI b)] (tp, tl, sg, ln, (nI c), ds) (fun u => ∃ tp1 sg1 ln1, u = (tp1, tl, sg1, ln1, nI (c + 1), ds) ∧ wrt sg ln sg1 ln1 c (stm (fun i => tp (a + i)) (b - a)) ∧ ∀ i, (i < a ∨ b ≤ i) → tp1 i = tp i) := by
  refine g_startv (by decide) (Nat.le_of_ble_eq_true rfl) ?_
  intro p ev s m args below meth cd A Q ls hC hQ hl hw
  have hx := hC.1.1
  have hb := hC.1.2.1
  have hl : lv_has ls 3 [(0, .ref (g 0)), (1, .int (nI a)), (2, .int (nI b))] := hl
  refine lv_aload_n (pc := 0) hx hb d_X_addTerm_0 rfl (lv_at hl 0 rfl) ?_
  refine xg_tc (pc := 1) hC hw d_X_addTerm_1 ?_
  refine lv_sipush (pc := 4) (v := nI 150) hx hb d_X_addTerm_4 (by decide) ?_
  refine nc_ge (pc := 7) (tgt := 30) hx hb d_X_addTerm_7 (by decide) (by omega) (by omega) (fun hc7 => ?_) (fun hc7 => ?_)
  · omega
  · refine lv_aload_n (pc := 10) hx hb d_X_addTerm_10 rfl (lv_at hl 0 rfl) ?_
    refine lv_aload_n (pc := 11) hx hb d_X_addTerm_11 rfl (lv_at hl 0 rfl) ?_
    refine xg_tc (pc := 12) hC hw d_X_addTerm_12 ?_
    refine lv_iload_n (pc := 15) hx hb d_X_addTerm_15 rfl (lv_at hl 1 rfl) ?_
    refine lv_iload_n (pc := 16) hx hb d_X_addTerm_16 rfl (lv_at hl 2 rfl) ?_
    refine g_callv (pc := 17) (as := [.int (nI c), .int (nI a), .int (nI b)]) (rest := []) hC hw (c_X_writeTerm l D g k tp tl sg ln _ ds (j := c) (a := a) (b := b) (by omega) hab hb0 hby) lm_X_writeTerm f_X_writeTerm rfl rfl rfl rfl ⟨by decide, by decide⟩ hl.1 (Nat.le_of_ble_eq_true rfl) d_X_addTerm_17 (fun u1 H locs hp hw => ?_)
    obtain ⟨tp1, sg1, ln1, rfl, hwr, hfr⟩ := hp
    refine lv_aload_n (pc := 20) hx hb d_X_addTerm_20 rfl (lv_at hl 0 rfl) ?_
    refine lv_dup (pc := 21) hx hb d_X_addTerm_21 rfl ?_
    refine xg_tc (pc := 22) hC hw d_X_addTerm_22 ?_
    refine lv_iconst (pc := 25) (v := nI 1) hx hb d_X_addTerm_25 (by decide) ?_
    refine lv_iadd (pc := 26) hx hb d_X_addTerm_26 ?_
    refine g_top (y := nI (c + 1)) (nI_add _ _) ?_
    refine xp_tc (pc := 27) hC hw d_X_addTerm_27 (fun H locs hw => ?_)
    have hw : gH D (xw g k) A _ (tp1, tl, sg1, ln1, (nI (c + 1)), ds) H locs := hw
    exact hQ _ _ _ _ _ hw (⟨tp1, sg1, ln1, rfl, hwr, hfr⟩) d_X_addTerm_30
set_option maxHeartbeats 4000000 in
set_option maxRecDepth 100000 in
theorem c_X_tapeIsWord (l : Launch) (D : va_G) (g : Nat → Nat) (k : Nat → ClassId) (tp : Nat → Int32) (sg ln : Nat → Int32) (tc : Int32) (ds : Nat → Int32) {n : Nat} (h : n ≤ 300) : gMi l y_X_tapeIsWord (gW y_X_tapeIsWord b_X_tapeIsWord 2 (some .boolean)) (gR 1) D (xT k) (xw g k) [.ref (g 0)] (tp, (nI n), sg, ln, tc, ds) (fun r u => r = bI (isW tp n) ∧ u = (tp, nI n, sg, ln, tc, ds)) := by
  refine g_starti (by decide) (Nat.le_of_ble_eq_true rfl) ?_
  intro p ev s m args below meth cd A Q ls hC hQ hl hw
  have hx := hC.1.1
  have hb := hC.1.2.1
  have hl : lv_has ls 2 [(0, .ref (g 0))] := hl
  refine lv_iconst (pc := 0) (v := nI 0) hx hb d_X_tapeIsWord_0 (by decide) ?_
  refine lv_istore_n (pc := 1) hx hb d_X_tapeIsWord_1 rfl hl (by decide) rfl (fun ls hl => ?_)
  have hl : lv_has ls 2 [(1, .int (nI 0)), (0, .ref (g 0))] := hl
  have lp : ∀ (fu : Nat) (i : Nat) (ls : Array Slot) (H : Heap) (locs : List Loc), n - i < fu → lv_has ls 2 [(0, .ref (g 0)), (1, .int (nI i))] → gH D (xw g k) A s.heap (tp, (nI n), sg, ln, tc, ds) H locs → (i ≤ n) → (∀ j, j < i → sgn (tp j) = true) → W p l ev (gR 1) s m args below meth cd H locs 0 0 Q (F0 m 2 ls []) := by
    intro fu
    induction fu with
    | zero => intro i ls H locs hn hl hw hi ha; exact absurd hn (Nat.not_lt_zero _)
    | succ fu ih =>
      intro i ls H locs hn hl hw hi ha
      refine lv_iload_n (pc := 2) hx hb d_X_tapeIsWord_2 rfl (lv_at hl 1 rfl) ?_
      refine lv_aload_n (pc := 3) hx hb d_X_tapeIsWord_3 rfl (lv_at hl 0 rfl) ?_
      refine xg_tl (pc := 4) hC hw d_X_tapeIsWord_4 ?_
      refine nc_ge (pc := 7) (tgt := 30) hx hb d_X_tapeIsWord_7 (by decide) (by omega) (by omega) (fun hc7 => ?_) (fun hc7 => ?_)
      · have e : i = n := by omega
        subst e
        refine lv_aload_n (pc := 30) hx hb d_X_tapeIsWord_30 rfl (lv_at hl 0 rfl) ?_
        refine xg_tl (pc := 31) hC hw d_X_tapeIsWord_31 ?_
        refine lv_if_le (pc := 34) (tgt := 41) hx hb d_X_tapeIsWord_34 (by decide) (fun hc34 => ?_) (fun hc34 => ?_)
        · have e : i = 0 := Nat.not_lt.mp (fun q => absurd hc34 (nI_nle q (by omega))) |> Nat.le_zero.mp
          subst e
          refine lv_iconst (pc := 41) (v := nI 0) hx hb d_X_tapeIsWord_41 (by decide) ?_
          exact hQ _ _ _ _ _ _ hw (rfl) (⟨rfl, rfl⟩) d_X_tapeIsWord_42
        · have h0 : 0 < i := Nat.pos_of_ne_zero (fun q => hc34 (by rw [q]; decide))
          refine lv_iconst (pc := 37) (v := nI 1) hx hb d_X_tapeIsWord_37 (by decide) ?_
          refine lv_goto (pc := 38) (tgt := 42) hx hb d_X_tapeIsWord_38 (by decide) ?_
          exact hQ _ _ _ _ _ _ hw (rfl) (⟨by rw [isW_y h0 ha]; rfl, rfl⟩) d_X_tapeIsWord_42
      · refine lv_aload_n (pc := 10) hx hb d_X_tapeIsWord_10 rfl (lv_at hl 0 rfl) ?_
        refine xg_tp (pc := 11) hC hw d_X_tapeIsWord_11 ?_
        refine lv_iload_n (pc := 14) hx hb d_X_tapeIsWord_14 rfl (lv_at hl 1 rfl) ?_
        refine xl_tp (pc := 15) (i := i) (by omega) hC hw d_X_tapeIsWord_15 ?_
        refine g_calls (pc := 16) (as := [.int (tp i)]) (rest := []) hC hw (c_X_isSign l D (tp i)) lm_X_isSign f_X_isSign rfl rfl ⟨by decide, by decide⟩ hl.1 (Nat.le_of_ble_eq_true rfl) d_X_tapeIsWord_16 (fun H locs hw => ?_)
        refine lv_if_ne (pc := 19) (tgt := 24) hx hb d_X_tapeIsWord_19 (by decide) (fun hc19 => ?_) (fun hc19 => ?_)
        · refine lv_iinc (pc := 24) (k := 1) (v := nI (i + 1)) hx hb d_X_tapeIsWord_24 hl rfl (nI_i1 i) (by decide) rfl (fun ls hl => ?_)
          have hl : lv_has ls 2 [(1, .int (nI (i + 1))), (0, .ref (g 0))] := hl
          refine lv_goto (pc := 27) (tgt := 2) hx hb d_X_tapeIsWord_27 (by decide) ?_
          exact ih (i + 1) _ _ _ (by omega) (lv_sub hl [1, 0] rfl) hw (by omega) (lt_s ha (bI_1 hc19))
        · refine lv_iconst (pc := 22) (v := nI 0) hx hb d_X_tapeIsWord_22 (by decide) ?_
          exact hQ _ _ _ _ _ _ hw (rfl) (⟨by rw [isW_n (i := i) (by omega) (by rw [bI_0 hc19]; decide)]; rfl, rfl⟩) d_X_tapeIsWord_23
  exact lp (n + 1) 0 _ _ _ (by omega) (lv_sub hl [1, 0] rfl) hw (Nat.zero_le _) (fun j hj => absurd hj (Nat.not_lt_zero _))
end
section
theorem scn_bd {q : Nat → Bool} {n b a : Nat} (h : b = n ∨ (b < n ∧ ¬ q b = true)) : scn q (n - b) b a = (if a < b then [(a, b)] else []) ++ scn q (n - (b + 1)) (b + 1) (b + 1) := by
  rcases h with h | ⟨h1, h2⟩
  · subst h
    rw [Nat.sub_self, show b - (b + 1) = 0 by omega]
    unfold scn
    rw [if_neg (Nat.lt_irrefl (b + 1)), List.append_nil]
  · rw [show n - b = (n - (b + 1)) + 1 by omega, scn_out h2]
theorem twd_wrt {tp f sg ln sg1 ln1 : Nat → Int32} {a b j : Nat} (h : wrt sg ln sg1 ln1 j (stm (fun i => tp (a + i)) (b - a))) (he : ∀ i, a ≤ i → i < b → tp i = f i) : wrt sg ln sg1 ln1 j (twd f (a, b)) := by
  have q := stm_ext (w := fun i => tp (a + i)) (v := fun i => f (a + i)) (n := b - a) (fun i hi => he (a + i) (by omega) (by omega))
  exact wrt_ext h q.1 q.2
set_option maxHeartbeats 4000000 in
set_option maxRecDepth 100000 in
theorem c_X_read (l : Launch) (D : va_G) (g : Nat → Nat) (k : Nat → ClassId) (tp : Nat → Int32) (sg ln : Nat → Int32) (tc : Int32) (ds : Nat → Int32) {n : Nat} {f : Nat → Int32} (h : n ≤ 300) (hf : ∀ i, i < n → tp i = f i ∧ by_ok (f i)) : gMi l y_X_read (gW y_X_read b_X_read 3 (some .int)) (gR 5) D (xT k) (xw g k) [.ref (g 0)] (tp, (nI n), sg, ln, tc, ds) (fun r u => ∃ tp1 sg1 ln1, r = nI (rdT f n).length ∧ u = (tp1, nI 0, sg1, ln1, nI (rdT f n).length, ds) ∧ tok (rdT f n) sg1 ln1) := by
  refine g_starti (by decide) (Nat.le_of_ble_eq_true rfl) ?_
  intro p ev s m args below meth cd A Q ls hC hQ hl hw
  have hx := hC.1.1
  have hb := hC.1.2.1
  have hl : lv_has ls 3 [(0, .ref (g 0))] := hl
  refine lv_aload_n (pc := 0) hx hb d_X_read_0 rfl (lv_at hl 0 rfl) ?_
  refine lv_iconst (pc := 1) (v := nI 0) hx hb d_X_read_1 (by decide) ?_
  refine xp_tc (pc := 2) hC hw d_X_read_2 (fun H locs hw => ?_)
  have hw : gH D (xw g k) A _ (tp, (nI n), sg, ln, (nI 0), ds) H locs := hw
  refine lv_iconst (pc := 5) (v := nI 0) hx hb d_X_read_5 (by decide) ?_
  refine lv_istore_n (pc := 6) hx hb d_X_read_6 rfl hl (by decide) rfl (fun ls hl => ?_)
  have hl : lv_has ls 3 [(1, .int (nI 0)), (0, .ref (g 0))] := hl
  refine lv_iconst (pc := 7) (v := nI 0) hx hb d_X_read_7 (by decide) ?_
  refine lv_istore_n (pc := 8) hx hb d_X_read_8 rfl hl (by decide) rfl (fun ls hl => ?_)
  have hl : lv_has ls 3 [(2, .int (nI 0)), (1, .int (nI 0)), (0, .ref (g 0))] := hl
  have lp : ∀ (fu : Nat) (a : Nat) (b : Nat) (tp1 : Nat → Int32) (sg1 : Nat → Int32) (ln1 : Nat → Int32) (dn : List Tm) (ls : Array Slot) (H : Heap) (locs : List Loc), n + 1 - b < fu → lv_has ls 3 [(0, .ref (g 0)), (1, .int (nI a)), (2, .int (nI b))] → gH D (xw g k) A s.heap (tp1, (nI n), sg1, ln1, (nI dn.length), ds) H locs → (a ≤ b) → (b ≤ n + 1) → (b = n + 1 → a = b) → (∀ i, a ≤ i → i < n → tp1 i = f i) → (tok dn sg1 ln1) → (dn ++ (scn (fun i => sgn (f i)) (n - b) b a).map (twd f) = rdT f n) → W p l ev (gR 5) s m args below meth cd H locs 0 0 Q (F0 m 9 ls []) := by
    intro fu
    induction fu with
    | zero => intro a b tp1 sg1 ln1 dn ls H locs hn hl hw h1 h2 h7 h3 h4 h5; exact absurd hn (Nat.not_lt_zero _)
    | succ fu ih =>
      intro a b tp1 sg1 ln1 dn ls H locs hn hl hw h1 h2 h7 h3 h4 h5
      refine lv_iload_n (pc := 9) hx hb d_X_read_9 rfl (lv_at hl 2 rfl) ?_
      refine lv_aload_n (pc := 10) hx hb d_X_read_10 rfl (lv_at hl 0 rfl) ?_
      refine xg_tl (pc := 11) hC hw d_X_read_11 ?_
      refine nc_gt (pc := 14) (tgt := 58) hx hb d_X_read_14 (by decide) (by omega) (by omega) (fun hc14 => ?_) (fun hc14 => ?_)
      · have e1 : b = n + 1 := by omega
        have e2 : a = b := h7 e1
        subst e2
        have e3 : dn = rdT f n := by
          rw [← h5, show n - a = 0 by omega]
          unfold scn
          rw [if_neg (Nat.lt_irrefl a), List.map_nil, List.append_nil]
        subst e3
        refine lv_aload_n (pc := 58) hx hb d_X_read_58 rfl (lv_at hl 0 rfl) ?_
        refine lv_iconst (pc := 59) (v := nI 0) hx hb d_X_read_59 (by decide) ?_
        refine xp_tl (pc := 60) hC hw d_X_read_60 (fun H locs hw => ?_)
        have hw : gH D (xw g k) A _ (tp1, (nI 0), sg1, ln1, (nI (rdT f n).length), ds) H locs := hw
        refine lv_aload_n (pc := 63) hx hb d_X_read_63 rfl (lv_at hl 0 rfl) ?_
        refine xg_tc (pc := 64) hC hw d_X_read_64 ?_
        exact hQ _ _ _ _ _ _ hw (rfl) (⟨tp1, sg1, ln1, rfl, rfl, h4⟩) d_X_read_67
      · refine lv_iload_n (pc := 17) hx hb d_X_read_17 rfl (lv_at hl 2 rfl) ?_
        refine lv_aload_n (pc := 18) hx hb d_X_read_18 rfl (lv_at hl 0 rfl) ?_
        refine xg_tl (pc := 19) hC hw d_X_read_19 ?_
        refine nc_eq (pc := 22) (tgt := 37) hx hb d_X_read_22 (by decide) (by omega) (by omega) (fun hc22 => ?_) (fun hc22 => ?_)
        · have hbd := scn_bd (q := fun i => sgn (f i)) (n := n) (b := b) (a := a) (Or.inl hc22)
          rw [hbd] at h5
          refine lv_iload_n (pc := 37) hx hb d_X_read_37 rfl (lv_at hl 1 rfl) ?_
          refine lv_iload_n (pc := 38) hx hb d_X_read_38 rfl (lv_at hl 2 rfl) ?_
          refine nc_ge (pc := 39) (tgt := 48) hx hb d_X_read_39 (by decide) (by omega) (by omega) (fun hc39 => ?_) (fun hc39 => ?_)
          · rw [if_neg (Nat.not_lt.mpr hc39), List.nil_append] at h5
            refine lv_iload_n (pc := 48) hx hb d_X_read_48 rfl (lv_at hl 2 rfl) ?_
            refine lv_iconst (pc := 49) (v := nI 1) hx hb d_X_read_49 (by decide) ?_
            refine lv_iadd (pc := 50) hx hb d_X_read_50 ?_
            refine g_top (y := nI (b + 1)) (nI_add _ _) ?_
            refine lv_istore_n (pc := 51) hx hb d_X_read_51 rfl hl (by decide) rfl (fun ls hl => ?_)
            have hl : lv_has ls 3 [(1, .int (nI (b + 1))), (0, .ref (g 0)), (2, .int (nI b))] := hl
            refine lv_iinc (pc := 52) (k := 2) (v := nI (b + 1)) hx hb d_X_read_52 hl rfl (nI_i1 b) (by decide) rfl (fun ls hl => ?_)
            have hl : lv_has ls 3 [(2, .int (nI (b + 1))), (1, .int (nI (b + 1))), (0, .ref (g 0))] := hl
            refine lv_goto (pc := 55) (tgt := 9) hx hb d_X_read_55 (by decide) ?_
            exact ih (b + 1) (b + 1) tp1 sg1 ln1 dn _ _ _ (by omega) (lv_sub hl [2, 1, 0] rfl) hw (Nat.le_refl _) (by omega) (fun _ => rfl) (fun i q1 q2 => h3 i (by omega) q2) (h4) (h5)
          · rw [if_pos hc39] at h5
            have hln := congrArg List.length h5
            rw [List.length_append, List.length_map, List.length_append, List.length_singleton] at hln
            have hmx := rdT_len (f := f) h
            refine lv_aload_n (pc := 42) hx hb d_X_read_42 rfl (lv_at hl 0 rfl) ?_
            refine lv_iload_n (pc := 43) hx hb d_X_read_43 rfl (lv_at hl 1 rfl) ?_
            refine lv_iload_n (pc := 44) hx hb d_X_read_44 rfl (lv_at hl 2 rfl) ?_
            refine g_callv (pc := 45) (as := [.int (nI a), .int (nI b)]) (rest := []) hC hw (c_X_addTerm l D g k tp1 _ sg1 ln1 ds (c := dn.length) (a := a) (b := b) (by omega) h1 (by omega) (fun i q1 q2 => by rw [h3 i q1 (by omega)]; exact (hf i (by omega)).2)) lm_X_addTerm f_X_addTerm rfl rfl rfl rfl ⟨by decide, by decide⟩ hl.1 (Nat.le_of_ble_eq_true rfl) d_X_read_45 (fun u1 H locs hp hw => ?_)
            obtain ⟨tp2, sg2, ln2, rfl, hwr, hfr⟩ := hp
            refine lv_iload_n (pc := 48) hx hb d_X_read_48 rfl (lv_at hl 2 rfl) ?_
            refine lv_iconst (pc := 49) (v := nI 1) hx hb d_X_read_49 (by decide) ?_
            refine lv_iadd (pc := 50) hx hb d_X_read_50 ?_
            refine g_top (y := nI (b + 1)) (nI_add _ _) ?_
            refine lv_istore_n (pc := 51) hx hb d_X_read_51 rfl hl (by decide) rfl (fun ls hl => ?_)
            have hl : lv_has ls 3 [(1, .int (nI (b + 1))), (0, .ref (g 0)), (2, .int (nI b))] := hl
            refine lv_iinc (pc := 52) (k := 2) (v := nI (b + 1)) hx hb d_X_read_52 hl rfl (nI_i1 b) (by decide) rfl (fun ls hl => ?_)
            have hl : lv_has ls 3 [(2, .int (nI (b + 1))), (1, .int (nI (b + 1))), (0, .ref (g 0))] := hl
            refine lv_goto (pc := 55) (tgt := 9) hx hb d_X_read_55 (by decide) ?_
            exact ih (b + 1) (b + 1) tp2 sg2 ln2 (dn ++ [twd f (a, b)]) _ _ _ (by omega) (lv_sub hl [2, 1, 0] rfl) (by rw [List.length_append, List.length_singleton]; exact hw) (Nat.le_refl _) (by omega) (fun _ => rfl) (fun i q1 q2 => by rw [hfr i (by omega)]; exact h3 i (by omega) q2) (tok_push h4 (twd_wrt hwr (fun i q1 q2 => h3 i q1 (by omega)))) (by rw [← h5, List.map_append, List.append_assoc]; rfl)
        · refine lv_aload_n (pc := 25) hx hb d_X_read_25 rfl (lv_at hl 0 rfl) ?_
          refine xg_tp (pc := 26) hC hw d_X_read_26 ?_
          refine lv_iload_n (pc := 29) hx hb d_X_read_29 rfl (lv_at hl 2 rfl) ?_
          refine xl_tp (pc := 30) (i := b) (by omega) hC hw d_X_read_30 ?_
          refine g_top (y := f b) (h3 b h1 (by omega)) ?_
          refine g_calls (pc := 31) (as := [.int (f b)]) (rest := []) hC hw (c_X_isSign l D (f b)) lm_X_isSign f_X_isSign rfl rfl ⟨by decide, by decide⟩ hl.1 (Nat.le_of_ble_eq_true rfl) d_X_read_31 (fun H locs hw => ?_)
          refine lv_if_ne (pc := 34) (tgt := 52) hx hb d_X_read_34 (by decide) (fun hc34 => ?_) (fun hc34 => ?_)
          · rw [show n - b = (n - (b + 1)) + 1 by omega, scn_in (q := fun i => sgn (f i)) (bI_1 hc34)] at h5
            refine lv_iinc (pc := 52) (k := 2) (v := nI (b + 1)) hx hb d_X_read_52 hl rfl (nI_i1 b) (by decide) rfl (fun ls hl => ?_)
            have hl : lv_has ls 3 [(2, .int (nI (b + 1))), (0, .ref (g 0)), (1, .int (nI a))] := hl
            refine lv_goto (pc := 55) (tgt := 9) hx hb d_X_read_55 (by decide) ?_
            exact ih a (b + 1) tp1 sg1 ln1 dn _ _ _ (by omega) (lv_sub hl [1, 2, 0] rfl) hw (by omega) (by omega) (by omega) h3 h4 h5
          · have hbd := scn_bd (q := fun i => sgn (f i)) (n := n) (b := b) (a := a) (Or.inr ⟨by omega, by rw [bI_0 hc34]; decide⟩)
            rw [hbd] at h5
            refine lv_iload_n (pc := 37) hx hb d_X_read_37 rfl (lv_at hl 1 rfl) ?_
            refine lv_iload_n (pc := 38) hx hb d_X_read_38 rfl (lv_at hl 2 rfl) ?_
            refine nc_ge (pc := 39) (tgt := 48) hx hb d_X_read_39 (by decide) (by omega) (by omega) (fun hc39 => ?_) (fun hc39 => ?_)
            · rw [if_neg (Nat.not_lt.mpr hc39), List.nil_append] at h5
              refine lv_iload_n (pc := 48) hx hb d_X_read_48 rfl (lv_at hl 2 rfl) ?_
              refine lv_iconst (pc := 49) (v := nI 1) hx hb d_X_read_49 (by decide) ?_
              refine lv_iadd (pc := 50) hx hb d_X_read_50 ?_
              refine g_top (y := nI (b + 1)) (nI_add _ _) ?_
              refine lv_istore_n (pc := 51) hx hb d_X_read_51 rfl hl (by decide) rfl (fun ls hl => ?_)
              have hl : lv_has ls 3 [(1, .int (nI (b + 1))), (0, .ref (g 0)), (2, .int (nI b))] := hl
              refine lv_iinc (pc := 52) (k := 2) (v := nI (b + 1)) hx hb d_X_read_52 hl rfl (nI_i1 b) (by decide) rfl (fun ls hl => ?_)
              have hl : lv_has ls 3 [(2, .int (nI (b + 1))), (1, .int (nI (b + 1))), (0, .ref (g 0))] := hl
              refine lv_goto (pc := 55) (tgt := 9) hx hb d_X_read_55 (by decide) ?_
              exact ih (b + 1) (b + 1) tp1 sg1 ln1 dn _ _ _ (by omega) (lv_sub hl [2, 1, 0] rfl) hw (Nat.le_refl _) (by omega) (fun _ => rfl) (fun i q1 q2 => h3 i (by omega) q2) (h4) (h5)
            · rw [if_pos hc39] at h5
              have hln := congrArg List.length h5
              rw [List.length_append, List.length_map, List.length_append, List.length_singleton] at hln
              have hmx := rdT_len (f := f) h
              refine lv_aload_n (pc := 42) hx hb d_X_read_42 rfl (lv_at hl 0 rfl) ?_
              refine lv_iload_n (pc := 43) hx hb d_X_read_43 rfl (lv_at hl 1 rfl) ?_
              refine lv_iload_n (pc := 44) hx hb d_X_read_44 rfl (lv_at hl 2 rfl) ?_
              refine g_callv (pc := 45) (as := [.int (nI a), .int (nI b)]) (rest := []) hC hw (c_X_addTerm l D g k tp1 _ sg1 ln1 ds (c := dn.length) (a := a) (b := b) (by omega) h1 (by omega) (fun i q1 q2 => by rw [h3 i q1 (by omega)]; exact (hf i (by omega)).2)) lm_X_addTerm f_X_addTerm rfl rfl rfl rfl ⟨by decide, by decide⟩ hl.1 (Nat.le_of_ble_eq_true rfl) d_X_read_45 (fun u1 H locs hp hw => ?_)
              obtain ⟨tp2, sg2, ln2, rfl, hwr, hfr⟩ := hp
              refine lv_iload_n (pc := 48) hx hb d_X_read_48 rfl (lv_at hl 2 rfl) ?_
              refine lv_iconst (pc := 49) (v := nI 1) hx hb d_X_read_49 (by decide) ?_
              refine lv_iadd (pc := 50) hx hb d_X_read_50 ?_
              refine g_top (y := nI (b + 1)) (nI_add _ _) ?_
              refine lv_istore_n (pc := 51) hx hb d_X_read_51 rfl hl (by decide) rfl (fun ls hl => ?_)
              have hl : lv_has ls 3 [(1, .int (nI (b + 1))), (0, .ref (g 0)), (2, .int (nI b))] := hl
              refine lv_iinc (pc := 52) (k := 2) (v := nI (b + 1)) hx hb d_X_read_52 hl rfl (nI_i1 b) (by decide) rfl (fun ls hl => ?_)
              have hl : lv_has ls 3 [(2, .int (nI (b + 1))), (1, .int (nI (b + 1))), (0, .ref (g 0))] := hl
              refine lv_goto (pc := 55) (tgt := 9) hx hb d_X_read_55 (by decide) ?_
              exact ih (b + 1) (b + 1) tp2 sg2 ln2 (dn ++ [twd f (a, b)]) _ _ _ (by omega) (lv_sub hl [2, 1, 0] rfl) (by rw [List.length_append, List.length_singleton]; exact hw) (Nat.le_refl _) (by omega) (fun _ => rfl) (fun i q1 q2 => by rw [hfr i (by omega)]; exact h3 i (by omega) q2) (tok_push h4 (twd_wrt hwr (fun i q1 q2 => h3 i q1 (by omega)))) (by rw [← h5, List.map_append, List.append_assoc]; rfl)
  exact lp (n + 2) 0 0 tp sg ln [] _ _ _ (by omega) (lv_sub hl [2, 1, 0] rfl) hw (Nat.le_refl _) (Nat.zero_le _) (fun q => absurd q (by omega)) (fun i _ q => (hf i q).1) tok_nil rfl
theorem nb_bI (x : Bool) : narrow .boolean (.int (bI x)) = .int (bI x) := by cases x <;> rfl
theorem isW_congr {w v : Nat → Int32} {n : Nat} (h : ∀ i, i < n → w i = v i) : isW w n = isW v n := by
  cases e : isW v n with
  | true =>
    obtain ⟨h0, h1⟩ := isW_of e
    exact isW_y h0 (fun i hi => by rw [h i hi]; exact h1 i hi)
  | false =>
    cases e2 : isW w n with
    | false => rfl
    | true =>
      obtain ⟨h0, h1⟩ := isW_of e2
      rw [isW_y h0 (fun i hi => by rw [← h i hi]; exact h1 i hi)] at e
      exact e
theorem z_add (tp : Nat → Int32) : (fun i => tp (0 + i)) = tp := funext fun i => by rw [Nat.zero_add]
set_option maxHeartbeats 4000000 in
set_option maxRecDepth 100000 in
theorem c_X_takeTapeTerm (l : Launch) (D : va_G) (g : Nat → Nat) (k : Nat → ClassId) (tp : Nat → Int32) (sg ln : Nat → Int32) (tc : Int32) (ds : Nat → Int32) {n : Nat} {f : Nat → Int32} (h : n ≤ 300) (hf : ∀ i, i < n → tp i = f i ∧ by_ok (f i)) : gMi l y_X_takeTapeTerm (gW y_X_takeTapeTerm b_X_takeTapeTerm 2 (some .boolean)) (gR 4) D (xT k) (xw g k) [.ref (g 0)] (tp, (nI n), sg, ln, tc, ds) (fun r u => (isW f n = true ∧ r = 1 ∧ ∃ tp1 sg1 ln1, u = (tp1, nI 0, sg1, ln1, tc, ds) ∧ wrt sg ln sg1 ln1 150 (stm f n)) ∨ (isW f n = false ∧ r = 0 ∧ u = (tp, nI 0, sg, ln, tc, ds))) := by
  refine g_starti (by decide) (Nat.le_of_ble_eq_true rfl) ?_
  intro p ev s m args below meth cd A Q ls hC hQ hl hw
  have hx := hC.1.1
  have hb := hC.1.2.1
  have hl : lv_has ls 2 [(0, .ref (g 0))] := hl
  have hW := isW_congr (fun i hi => (hf i hi).1)
  have hst := stm_ext (w := tp) (v := f) (n := n) (fun i hi => (hf i hi).1)
  refine lv_aload_n (pc := 0) hx hb d_X_takeTapeTerm_0 rfl (lv_at hl 0 rfl) ?_
  refine g_calli (pc := 1) (as := []) (rest := []) hC hw (c_X_tapeIsWord l D g k tp sg ln tc ds h) lm_X_tapeIsWord f_X_tapeIsWord rfl rfl rfl rfl ⟨by decide, by decide⟩ hl.1 (Nat.le_of_ble_eq_true rfl) d_X_takeTapeTerm_1 (fun r u1 H locs hp hw => ?_)
  obtain ⟨rfl, rfl⟩ := hp
  refine g_top (y := bI (isW f n)) (by rw [hW]) ?_
  refine lv_istore_n (pc := 4) hx hb d_X_takeTapeTerm_4 rfl hl (by decide) rfl (fun ls hl => ?_)
  have hl : lv_has ls 2 [(1, .int (bI (isW f n))), (0, .ref (g 0))] := hl
  refine lv_iload_n (pc := 5) hx hb d_X_takeTapeTerm_5 rfl (lv_at hl 0 rfl) ?_
  refine lv_if_eq (pc := 6) (tgt := 21) hx hb d_X_takeTapeTerm_6 (by decide) (fun hc6 => ?_) (fun hc6 => ?_)
  · refine lv_aload_n (pc := 21) hx hb d_X_takeTapeTerm_21 rfl (lv_at hl 1 rfl) ?_
    refine lv_iconst (pc := 22) (v := nI 0) hx hb d_X_takeTapeTerm_22 (by decide) ?_
    refine xp_tl (pc := 23) hC hw d_X_takeTapeTerm_23 (fun H locs hw => ?_)
    have hw : gH D (xw g k) A _ (tp, (nI 0), sg, ln, tc, ds) H locs := hw
    refine lv_iload_n (pc := 26) hx hb d_X_takeTapeTerm_26 rfl (lv_at hl 0 rfl) ?_
    exact hQ _ _ _ _ _ _ hw (nb_bI _) (Or.inr ⟨bI_0 hc6, hc6, rfl⟩) d_X_takeTapeTerm_27
  · have hy := bI_1 hc6
    refine lv_aload_n (pc := 9) hx hb d_X_takeTapeTerm_9 rfl (lv_at hl 1 rfl) ?_
    refine lv_sipush (pc := 10) (v := nI 150) hx hb d_X_takeTapeTerm_10 (by decide) ?_
    refine lv_iconst (pc := 13) (v := nI 0) hx hb d_X_takeTapeTerm_13 (by decide) ?_
    refine lv_aload_n (pc := 14) hx hb d_X_takeTapeTerm_14 rfl (lv_at hl 1 rfl) ?_
    refine xg_tl (pc := 15) hC hw d_X_takeTapeTerm_15 ?_
    refine g_callv (pc := 18) (as := [.int (nI 150), .int (nI 0), .int (nI n)]) (rest := []) hC hw (c_X_writeTerm l D g k tp _ sg ln tc ds (j := 150) (a := 0) (b := n) (by omega) (Nat.zero_le _) h (fun i _ q => by rw [(hf i q).1]; exact (hf i q).2)) lm_X_writeTerm f_X_writeTerm rfl rfl rfl rfl ⟨by decide, by decide⟩ hl.1 (Nat.le_of_ble_eq_true rfl) d_X_takeTapeTerm_18 (fun u1 H locs hp hw => ?_)
    obtain ⟨tp1, sg1, ln1, rfl, hwr, hfr⟩ := hp
    rw [z_add] at hwr
    have hwr := wrt_ext hwr hst.1 hst.2
    refine lv_aload_n (pc := 21) hx hb d_X_takeTapeTerm_21 rfl (lv_at hl 1 rfl) ?_
    refine lv_iconst (pc := 22) (v := nI 0) hx hb d_X_takeTapeTerm_22 (by decide) ?_
    refine xp_tl (pc := 23) hC hw d_X_takeTapeTerm_23 (fun H locs hw => ?_)
    have hw : gH D (xw g k) A _ (tp1, (nI 0), sg1, ln1, tc, ds) H locs := hw
    refine lv_iload_n (pc := 26) hx hb d_X_takeTapeTerm_26 rfl (lv_at hl 0 rfl) ?_
    exact hQ _ _ _ _ _ _ hw (nb_bI _) (Or.inl ⟨hy, by rw [hy]; rfl, tp1, sg1, ln1, rfl, hwr⟩) d_X_takeTapeTerm_27
end
section
set_option maxHeartbeats 4000000 in
set_option maxRecDepth 100000 in
theorem c_X_distance (l : Launch) (D : va_G) (g : Nat → Nat) (k : Nat → ClassId) (tp : Nat → Int32) (tl : Int32) (sg ln : Nat → Int32) (tc : Int32) (ds : Nat → Int32) {a b : Nat} {T V : Tm} (ha : a < 151) (hb0 : b < 151) (hT : tat sg ln a T) (hV : tat sg ln b V) : gMi l y_X_distance (gW y_X_distance b_X_distance 8 (some .int)) (gR 1) D (xT k) (xw g k) [.ref (g 0), .int (nI a), .int (nI b)] (tp, tl, sg, ln, tc, ds) (fun r u => r = nI (lev T V) ∧ ∃ ds1, u = (tp, tl, sg, ln, tc, ds1)) := by
  refine g_starti (by decide) (Nat.le_of_ble_eq_true rfl) ?_
  intro p ev s m args below meth cd A Q ls hC hQ hl hw
  have hx := hC.1.1
  have hb := hC.1.2.1
  have hl : lv_has ls 8 [(0, .ref (g 0)), (1, .int (nI a)), (2, .int (nI b))] := hl
  obtain ⟨t1, t2, t3⟩ := hT
  obtain ⟨v1, v2, v3⟩ := hV
  have lp2 : ∀ (fu : Nat) (x : Nat) (ds1 : Nat → Int32) (ls : Array Slot) (H : Heap) (locs : List Loc), T.1 - x < fu → lv_has ls 8 [(0, .ref (g 0)), (1, .int (nI a)), (2, .int (nI b)), (3, .int (nI (x + 1)))] → gH D (xw g k) A s.heap (tp, tl, sg, ln, tc, ds1) H locs → (x ≤ T.1) → (∀ j, j ≤ V.1 → ds1 j = nI (lvr T.2 V.2 x j)) → W p l ev (gR 1) s m args below meth cd H locs 0 0 Q (F0 m 27 ls []) := by
    intro fu
    induction fu with
    | zero => intro x ds1 ls H locs hn hl hw hx1 hd; exact absurd hn (Nat.not_lt_zero _)
    | succ fu ih =>
      intro x ds1 ls H locs hn hl hw hx1 hd
      refine lv_iload_n (pc := 27) hx hb d_X_distance_27 rfl (lv_at hl 3 rfl) ?_
      refine lv_aload_n (pc := 28) hx hb d_X_distance_28 rfl (lv_at hl 0 rfl) ?_
      refine xg_ln (pc := 29) hC hw d_X_distance_29 ?_
      refine lv_iload_n (pc := 32) hx hb d_X_distance_32 rfl (lv_at hl 1 rfl) ?_
      refine xl_ln (pc := 33) (i := a) (by omega) hC hw d_X_distance_33 ?_
      refine g_top (y := nI T.1) (t2) ?_
      refine nc_gt (pc := 34) (tgt := 150) hx hb d_X_distance_34 (by decide) (by omega) (by omega) (fun hc34 => ?_) (fun hc34 => ?_)
      · have e : x = T.1 := by omega
        subst e
        refine lv_aload_n (pc := 150) hx hb d_X_distance_150 rfl (lv_at hl 0 rfl) ?_
        refine xg_ds (pc := 151) hC hw d_X_distance_151 ?_
        refine lv_aload_n (pc := 154) hx hb d_X_distance_154 rfl (lv_at hl 0 rfl) ?_
        refine xg_ln (pc := 155) hC hw d_X_distance_155 ?_
        refine lv_iload_n (pc := 158) hx hb d_X_distance_158 rfl (lv_at hl 2 rfl) ?_
        refine xl_ln (pc := 159) (i := b) (by omega) hC hw d_X_distance_159 ?_
        refine g_top (y := nI V.1) (v2) ?_
        refine xl_ds (pc := 160) (i := V.1) (by omega) hC hw d_X_distance_160 ?_
        refine g_top (y := nI (lev T V)) (hd V.1 (Nat.le_refl _)) ?_
        exact hQ _ _ _ _ _ _ hw (rfl) (⟨rfl, _, rfl⟩) d_X_distance_161
      · refine lv_aload_n (pc := 37) hx hb d_X_distance_37 rfl (lv_at hl 0 rfl) ?_
        refine xg_ds (pc := 38) hC hw d_X_distance_38 ?_
        refine lv_iconst (pc := 41) (v := nI 0) hx hb d_X_distance_41 (by decide) ?_
        refine xl_ds (pc := 42) (i := 0) (by omega) hC hw d_X_distance_42 ?_
        refine g_top (y := nI (lvr T.2 V.2 x 0)) (hd 0 (Nat.zero_le _)) ?_
        refine lv_istore (pc := 43) hx hb d_X_distance_43 hl (by decide) rfl (fun ls hl => ?_)
        have hl : lv_has ls 8 [(4, .int (nI (lvr T.2 V.2 x 0))), (0, .ref (g 0)), (1, .int (nI a)), (2, .int (nI b)), (3, .int (nI (x + 1)))] := hl
        refine lv_aload_n (pc := 45) hx hb d_X_distance_45 rfl (lv_at hl 1 rfl) ?_
        refine xg_ds (pc := 46) hC hw d_X_distance_46 ?_
        refine lv_iconst (pc := 49) (v := nI 0) hx hb d_X_distance_49 (by decide) ?_
        refine lv_iload_n (pc := 50) hx hb d_X_distance_50 rfl (lv_at hl 4 rfl) ?_
        refine xs_ds (pc := 51) (i := 0) (x := nI (x + 1)) (by omega) hC hw d_X_distance_51 (fun H locs hw => ?_)
        refine lv_iconst (pc := 52) (v := nI 1) hx hb d_X_distance_52 (by decide) ?_
        refine lv_istore (pc := 53) hx hb d_X_distance_53 hl (by decide) rfl (fun ls hl => ?_)
        have hl : lv_has ls 8 [(5, .int (nI 1)), (4, .int (nI (lvr T.2 V.2 x 0))), (0, .ref (g 0)), (1, .int (nI a)), (2, .int (nI b)), (3, .int (nI (x + 1)))] := hl
        have lp3 : ∀ (fu : Nat) (y : Nat) (ds2 : Nat → Int32) (ls : Array Slot) (H : Heap) (locs : List Loc), V.1 - y < fu → lv_has ls 8 [(0, .ref (g 0)), (1, .int (nI a)), (2, .int (nI b)), (3, .int (nI (x + 1))), (4, .int (nI (lvr T.2 V.2 x y))), (5, .int (nI (y + 1)))] → gH D (xw g k) A s.heap (tp, tl, sg, ln, tc, ds2) H locs → (y ≤ V.1) → (∀ j, j ≤ y → ds2 j = nI (lvr T.2 V.2 (x + 1) j)) → (∀ j, y < j → j ≤ V.1 → ds2 j = nI (lvr T.2 V.2 x j)) → W p l ev (gR 1) s m args below meth cd H locs 0 0 Q (F0 m 55 ls []) := by
          intro fu
          induction fu with
          | zero => intro y ds2 ls H locs hn3 hl hw hy1 he1 he2; exact absurd hn3 (Nat.not_lt_zero _)
          | succ fu ih3 =>
            intro y ds2 ls H locs hn3 hl hw hy1 he1 he2
            refine lv_iload (pc := 55) hx hb d_X_distance_55 (lv_at hl 5 rfl) ?_
            refine lv_aload_n (pc := 57) hx hb d_X_distance_57 rfl (lv_at hl 0 rfl) ?_
            refine xg_ln (pc := 58) hC hw d_X_distance_58 ?_
            refine lv_iload_n (pc := 61) hx hb d_X_distance_61 rfl (lv_at hl 2 rfl) ?_
            refine xl_ln (pc := 62) (i := b) (by omega) hC hw d_X_distance_62 ?_
            refine g_top (y := nI V.1) (v2) ?_
            refine nc_gt (pc := 63) (tgt := 144) hx hb d_X_distance_63 (by decide) (by omega) (by omega) (fun hc63 => ?_) (fun hc63 => ?_)
            · have e : y = V.1 := by omega
              refine lv_iinc (pc := 144) (k := 3) (v := nI ((x + 1) + 1)) hx hb d_X_distance_144 hl rfl (nI_i1 (x + 1)) (by decide) rfl (fun ls hl => ?_)
              have hl : lv_has ls 8 [(3, .int (nI ((x + 1) + 1))), (0, .ref (g 0)), (1, .int (nI a)), (2, .int (nI b)), (4, .int (nI (lvr T.2 V.2 x y))), (5, .int (nI (y + 1)))] := hl
              refine lv_goto (pc := 147) (tgt := 27) hx hb d_X_distance_147 (by decide) ?_
              exact ih (x + 1) ds2 _ _ _ (by omega) (lv_sub hl [1, 2, 3, 0] rfl) hw (by omega) (fun j hj => he1 j (by omega))
            · have b1 : lvr T.2 V.2 x y ≤ 24 := Nat.le_trans (lvr_le _ _ _ _) (by omega)
              have b2 : lvr T.2 V.2 x (y + 1) ≤ 24 := Nat.le_trans (lvr_le _ _ _ _) (by omega)
              have b3 : lvr T.2 V.2 (x + 1) y ≤ 24 := Nat.le_trans (lvr_le _ _ _ _) (by omega)
              refine lv_aload_n (pc := 66) hx hb d_X_distance_66 rfl (lv_at hl 0 rfl) ?_
              refine lv_iload_n (pc := 67) hx hb d_X_distance_67 rfl (lv_at hl 1 rfl) ?_
              refine lv_iload_n (pc := 68) hx hb d_X_distance_68 rfl (lv_at hl 3 rfl) ?_
              refine lv_iconst (pc := 69) (v := nI 1) hx hb d_X_distance_69 (by decide) ?_
              refine lv_isub (pc := 70) hx hb d_X_distance_70 ?_
              refine g_top (y := nI x) (nI_pred x) ?_
              refine g_calli (pc := 71) (as := [.int (nI a), .int (nI x)]) (rest := []) hC hw (c_X_signAt l D g k tp tl sg ln tc _ (a := a) (j := x) (by omega)) lm_X_signAt f_X_signAt rfl rfl rfl rfl ⟨by decide, by decide⟩ hl.1 (Nat.le_of_ble_eq_true rfl) d_X_distance_71 (fun r u1 H locs hp hw => ?_)
              obtain ⟨rfl, rfl⟩ := hp
              refine g_top (y := T.2 x) (t3 x (by omega)) ?_
              refine lv_aload_n (pc := 74) hx hb d_X_distance_74 rfl (lv_at hl 0 rfl) ?_
              refine lv_iload_n (pc := 75) hx hb d_X_distance_75 rfl (lv_at hl 2 rfl) ?_
              refine lv_iload (pc := 76) hx hb d_X_distance_76 (lv_at hl 5 rfl) ?_
              refine lv_iconst (pc := 78) (v := nI 1) hx hb d_X_distance_78 (by decide) ?_
              refine lv_isub (pc := 79) hx hb d_X_distance_79 ?_
              refine g_top (y := nI y) (nI_pred y) ?_
              refine g_calli (pc := 80) (as := [.int (nI b), .int (nI y)]) (rest := [.int (T.2 x)]) hC hw (c_X_signAt l D g k tp tl sg ln tc _ (a := b) (j := y) (by omega)) lm_X_signAt f_X_signAt rfl rfl rfl rfl ⟨by decide, by decide⟩ hl.1 (Nat.le_of_ble_eq_true rfl) d_X_distance_80 (fun r u1 H locs hp hw => ?_)
              obtain ⟨rfl, rfl⟩ := hp
              refine g_top (y := V.2 y) (v3 y (by omega)) ?_
              refine lv_icmp_ne (pc := 83) (tgt := 91) hx hb d_X_distance_83 (by decide) (fun hc83 => ?_) (fun hc83 => ?_)
              · refine lv_iload (pc := 91) hx hb d_X_distance_91 (lv_at hl 4 rfl) ?_
                refine lv_iconst (pc := 93) (v := nI 1) hx hb d_X_distance_93 (by decide) ?_
                refine lv_iadd (pc := 94) hx hb d_X_distance_94 ?_
                refine g_top (y := nI ((lvr T.2 V.2 x y) + 1)) (nI_add _ _) ?_
                refine lv_istore (pc := 95) hx hb d_X_distance_95 hl (by decide) rfl (fun ls hl => ?_)
                have hl : lv_has ls 8 [(6, .int (nI ((lvr T.2 V.2 x y) + 1))), (0, .ref (g 0)), (1, .int (nI a)), (2, .int (nI b)), (3, .int (nI (x + 1))), (4, .int (nI (lvr T.2 V.2 x y))), (5, .int (nI (y + 1)))] := hl
                refine lv_aload_n (pc := 97) hx hb d_X_distance_97 rfl (lv_at hl 1 rfl) ?_
                refine xg_ds (pc := 98) hC hw d_X_distance_98 ?_
                refine lv_iload (pc := 101) hx hb d_X_distance_101 (lv_at hl 6 rfl) ?_
                refine xl_ds (pc := 103) (i := y + 1) (by omega) hC hw d_X_distance_103 ?_
                refine g_top (y := nI (lvr T.2 V.2 x (y + 1))) (he2 (y + 1) (by omega) (by omega)) ?_
                refine lv_istore (pc := 104) hx hb d_X_distance_104 hl (by decide) rfl (fun ls hl => ?_)
                have hl : lv_has ls 8 [(4, .int (nI (lvr T.2 V.2 x (y + 1)))), (6, .int (nI ((lvr T.2 V.2 x y) + 1))), (0, .ref (g 0)), (1, .int (nI a)), (2, .int (nI b)), (3, .int (nI (x + 1))), (5, .int (nI (y + 1)))] := hl
                refine lv_iload (pc := 106) hx hb d_X_distance_106 (lv_at hl 0 rfl) ?_
                refine lv_aload_n (pc := 108) hx hb d_X_distance_108 rfl (lv_at hl 2 rfl) ?_
                refine xg_ds (pc := 109) hC hw d_X_distance_109 ?_
                refine lv_iload (pc := 112) hx hb d_X_distance_112 (lv_at hl 6 rfl) ?_
                refine lv_iconst (pc := 114) (v := nI 1) hx hb d_X_distance_114 (by decide) ?_
                refine lv_isub (pc := 115) hx hb d_X_distance_115 ?_
                refine g_top (y := nI y) (nI_pred y) ?_
                refine xl_ds (pc := 116) (i := y) (by omega) hC hw d_X_distance_116 ?_
                refine g_top (y := nI (lvr T.2 V.2 (x + 1) y)) (he1 y (Nat.le_refl _)) ?_
                refine va_mmin (pc := 117) hx hb (hC.1.2.2.1.trans hl.1.symm) hC.1.2.2.2.1 (hC.1.2.2.2.2 _ lm_X_Math_min) (hC.1.2.2.2.2 _ i_Math_min_static) (hC.1.2.2.2.2 _ i_Math_init) (hC.1.2.2.2.2 _ i_Math_min_code) (by decide) (Nat.le_of_ble_eq_true rfl) (Nat.zero_le _) (Nat.zero_le _) d_X_distance_117 ?_
                refine g_top (y := nI (min (lvr T.2 V.2 x (y + 1)) (lvr T.2 V.2 (x + 1) y))) (mn_eq (by omega) (by omega)) ?_
                refine lv_iconst (pc := 120) (v := nI 1) hx hb d_X_distance_120 (by decide) ?_
                refine lv_iadd (pc := 121) hx hb d_X_distance_121 ?_
                refine g_top (y := nI ((min (lvr T.2 V.2 x (y + 1)) (lvr T.2 V.2 (x + 1) y)) + 1)) (nI_add _ _) ?_
                refine lv_istore (pc := 122) hx hb d_X_distance_122 hl (by decide) rfl (fun ls hl => ?_)
                have hl : lv_has ls 8 [(7, .int (nI ((min (lvr T.2 V.2 x (y + 1)) (lvr T.2 V.2 (x + 1) y)) + 1))), (4, .int (nI (lvr T.2 V.2 x (y + 1)))), (6, .int (nI ((lvr T.2 V.2 x y) + 1))), (0, .ref (g 0)), (1, .int (nI a)), (2, .int (nI b)), (3, .int (nI (x + 1))), (5, .int (nI (y + 1)))] := hl
                refine lv_aload_n (pc := 124) hx hb d_X_distance_124 rfl (lv_at hl 3 rfl) ?_
                refine xg_ds (pc := 125) hC hw d_X_distance_125 ?_
                refine lv_iload (pc := 128) hx hb d_X_distance_128 (lv_at hl 7 rfl) ?_
                refine lv_iload (pc := 130) hx hb d_X_distance_130 (lv_at hl 2 rfl) ?_
                refine lv_iload (pc := 132) hx hb d_X_distance_132 (lv_at hl 0 rfl) ?_
                have hss := lvr_ss T.2 V.2 x y
                rw [if_neg hc83] at hss
                refine va_mmin (pc := 134) hx hb (hC.1.2.2.1.trans hl.1.symm) hC.1.2.2.2.1 (hC.1.2.2.2.2 _ lm_X_Math_min) (hC.1.2.2.2.2 _ i_Math_min_static) (hC.1.2.2.2.2 _ i_Math_init) (hC.1.2.2.2.2 _ i_Math_min_code) (by decide) (Nat.le_of_ble_eq_true rfl) (Nat.zero_le _) (Nat.zero_le _) d_X_distance_134 ?_
                refine g_top (y := nI (lvr T.2 V.2 (x + 1) (y + 1))) ((mn_eq (by omega) (by omega)).trans (congrArg nI hss.symm)) ?_
                refine xs_ds (pc := 137) (i := y + 1) (x := nI (lvr T.2 V.2 (x + 1) (y + 1))) (by omega) hC hw d_X_distance_137 (fun H locs hw => ?_)
                refine lv_iinc (pc := 138) (k := 7) (v := nI ((y + 1) + 1)) hx hb d_X_distance_138 hl rfl (nI_i1 (y + 1)) (by decide) rfl (fun ls hl => ?_)
                have hl : lv_has ls 8 [(5, .int (nI ((y + 1) + 1))), (7, .int (nI ((min (lvr T.2 V.2 x (y + 1)) (lvr T.2 V.2 (x + 1) y)) + 1))), (4, .int (nI (lvr T.2 V.2 x (y + 1)))), (6, .int (nI ((lvr T.2 V.2 x y) + 1))), (0, .ref (g 0)), (1, .int (nI a)), (2, .int (nI b)), (3, .int (nI (x + 1)))] := hl
                refine lv_goto (pc := 141) (tgt := 55) hx hb d_X_distance_141 (by decide) ?_
                refine ih3 (y + 1) _ _ _ _ (by omega) (lv_sub hl [4, 5, 6, 7, 2, 0] rfl) hw (by omega) (fun j hj => ?_) (fun j h1 h2 => ?_)
                · by_cases e : j = y + 1
                  · rw [e, pk_us]
                  · rw [pk_un e]; exact he1 j (by omega)
                · rw [pk_un (by omega)]; exact he2 j (by omega) h2
              · refine lv_iload (pc := 86) hx hb d_X_distance_86 (lv_at hl 4 rfl) ?_
                refine lv_goto (pc := 88) (tgt := 95) hx hb d_X_distance_88 (by decide) ?_
                refine lv_istore (pc := 95) hx hb d_X_distance_95 hl (by decide) rfl (fun ls hl => ?_)
                have hl : lv_has ls 8 [(6, .int (nI (lvr T.2 V.2 x y))), (0, .ref (g 0)), (1, .int (nI a)), (2, .int (nI b)), (3, .int (nI (x + 1))), (4, .int (nI (lvr T.2 V.2 x y))), (5, .int (nI (y + 1)))] := hl
                refine lv_aload_n (pc := 97) hx hb d_X_distance_97 rfl (lv_at hl 1 rfl) ?_
                refine xg_ds (pc := 98) hC hw d_X_distance_98 ?_
                refine lv_iload (pc := 101) hx hb d_X_distance_101 (lv_at hl 6 rfl) ?_
                refine xl_ds (pc := 103) (i := y + 1) (by omega) hC hw d_X_distance_103 ?_
                refine g_top (y := nI (lvr T.2 V.2 x (y + 1))) (he2 (y + 1) (by omega) (by omega)) ?_
                refine lv_istore (pc := 104) hx hb d_X_distance_104 hl (by decide) rfl (fun ls hl => ?_)
                have hl : lv_has ls 8 [(4, .int (nI (lvr T.2 V.2 x (y + 1)))), (6, .int (nI (lvr T.2 V.2 x y))), (0, .ref (g 0)), (1, .int (nI a)), (2, .int (nI b)), (3, .int (nI (x + 1))), (5, .int (nI (y + 1)))] := hl
                refine lv_iload (pc := 106) hx hb d_X_distance_106 (lv_at hl 0 rfl) ?_
                refine lv_aload_n (pc := 108) hx hb d_X_distance_108 rfl (lv_at hl 2 rfl) ?_
                refine xg_ds (pc := 109) hC hw d_X_distance_109 ?_
                refine lv_iload (pc := 112) hx hb d_X_distance_112 (lv_at hl 6 rfl) ?_
                refine lv_iconst (pc := 114) (v := nI 1) hx hb d_X_distance_114 (by decide) ?_
                refine lv_isub (pc := 115) hx hb d_X_distance_115 ?_
                refine g_top (y := nI y) (nI_pred y) ?_
                refine xl_ds (pc := 116) (i := y) (by omega) hC hw d_X_distance_116 ?_
                refine g_top (y := nI (lvr T.2 V.2 (x + 1) y)) (he1 y (Nat.le_refl _)) ?_
                refine va_mmin (pc := 117) hx hb (hC.1.2.2.1.trans hl.1.symm) hC.1.2.2.2.1 (hC.1.2.2.2.2 _ lm_X_Math_min) (hC.1.2.2.2.2 _ i_Math_min_static) (hC.1.2.2.2.2 _ i_Math_init) (hC.1.2.2.2.2 _ i_Math_min_code) (by decide) (Nat.le_of_ble_eq_true rfl) (Nat.zero_le _) (Nat.zero_le _) d_X_distance_117 ?_
                refine g_top (y := nI (min (lvr T.2 V.2 x (y + 1)) (lvr T.2 V.2 (x + 1) y))) (mn_eq (by omega) (by omega)) ?_
                refine lv_iconst (pc := 120) (v := nI 1) hx hb d_X_distance_120 (by decide) ?_
                refine lv_iadd (pc := 121) hx hb d_X_distance_121 ?_
                refine g_top (y := nI ((min (lvr T.2 V.2 x (y + 1)) (lvr T.2 V.2 (x + 1) y)) + 1)) (nI_add _ _) ?_
                refine lv_istore (pc := 122) hx hb d_X_distance_122 hl (by decide) rfl (fun ls hl => ?_)
                have hl : lv_has ls 8 [(7, .int (nI ((min (lvr T.2 V.2 x (y + 1)) (lvr T.2 V.2 (x + 1) y)) + 1))), (4, .int (nI (lvr T.2 V.2 x (y + 1)))), (6, .int (nI (lvr T.2 V.2 x y))), (0, .ref (g 0)), (1, .int (nI a)), (2, .int (nI b)), (3, .int (nI (x + 1))), (5, .int (nI (y + 1)))] := hl
                refine lv_aload_n (pc := 124) hx hb d_X_distance_124 rfl (lv_at hl 3 rfl) ?_
                refine xg_ds (pc := 125) hC hw d_X_distance_125 ?_
                refine lv_iload (pc := 128) hx hb d_X_distance_128 (lv_at hl 7 rfl) ?_
                refine lv_iload (pc := 130) hx hb d_X_distance_130 (lv_at hl 2 rfl) ?_
                refine lv_iload (pc := 132) hx hb d_X_distance_132 (lv_at hl 0 rfl) ?_
                have hss := lvr_ss T.2 V.2 x y
                rw [if_pos hc83] at hss
                refine va_mmin (pc := 134) hx hb (hC.1.2.2.1.trans hl.1.symm) hC.1.2.2.2.1 (hC.1.2.2.2.2 _ lm_X_Math_min) (hC.1.2.2.2.2 _ i_Math_min_static) (hC.1.2.2.2.2 _ i_Math_init) (hC.1.2.2.2.2 _ i_Math_min_code) (by decide) (Nat.le_of_ble_eq_true rfl) (Nat.zero_le _) (Nat.zero_le _) d_X_distance_134 ?_
                refine g_top (y := nI (lvr T.2 V.2 (x + 1) (y + 1))) ((mn_eq (by omega) (by omega)).trans (congrArg nI hss.symm)) ?_
                refine xs_ds (pc := 137) (i := y + 1) (x := nI (lvr T.2 V.2 (x + 1) (y + 1))) (by omega) hC hw d_X_distance_137 (fun H locs hw => ?_)
                refine lv_iinc (pc := 138) (k := 7) (v := nI ((y + 1) + 1)) hx hb d_X_distance_138 hl rfl (nI_i1 (y + 1)) (by decide) rfl (fun ls hl => ?_)
                have hl : lv_has ls 8 [(5, .int (nI ((y + 1) + 1))), (7, .int (nI ((min (lvr T.2 V.2 x (y + 1)) (lvr T.2 V.2 (x + 1) y)) + 1))), (4, .int (nI (lvr T.2 V.2 x (y + 1)))), (6, .int (nI (lvr T.2 V.2 x y))), (0, .ref (g 0)), (1, .int (nI a)), (2, .int (nI b)), (3, .int (nI (x + 1)))] := hl
                refine lv_goto (pc := 141) (tgt := 55) hx hb d_X_distance_141 (by decide) ?_
                refine ih3 (y + 1) _ _ _ _ (by omega) (lv_sub hl [4, 5, 6, 7, 2, 0] rfl) hw (by omega) (fun j hj => ?_) (fun j h1 h2 => ?_)
                · by_cases e : j = y + 1
                  · rw [e, pk_us]
                  · rw [pk_un e]; exact he1 j (by omega)
                · rw [pk_un (by omega)]; exact he2 j (by omega) h2
        exact lp3 (V.1 + 1) 0 _ _ _ _ (by omega) (lv_sub hl [2, 3, 4, 5, 1, 0] rfl) hw (Nat.zero_le _) (fun j hj => by rw [show j = 0 by omega, pk_us]; rfl) (fun j h1 h2 => by rw [pk_un (by omega)]; exact hd j h2)
  refine lv_iconst (pc := 0) (v := nI 0) hx hb d_X_distance_0 (by decide) ?_
  refine lv_istore_n (pc := 1) hx hb d_X_distance_1 rfl hl (by decide) rfl (fun ls hl => ?_)
  have hl : lv_has ls 8 [(3, .int (nI 0)), (0, .ref (g 0)), (1, .int (nI a)), (2, .int (nI b))] := hl
  have lp : ∀ (fu : Nat) (y : Nat) (ds1 : Nat → Int32) (ls : Array Slot) (H : Heap) (locs : List Loc), V.1 + 1 - y < fu → lv_has ls 8 [(0, .ref (g 0)), (1, .int (nI a)), (2, .int (nI b)), (3, .int (nI y))] → gH D (xw g k) A s.heap (tp, tl, sg, ln, tc, ds1) H locs → (y ≤ V.1 + 1) → (∀ j, j < y → ds1 j = nI j) → W p l ev (gR 1) s m args below meth cd H locs 0 0 Q (F0 m 2 ls []) := by
    intro fu
    induction fu with
    | zero => intro y ds1 ls H locs hn hl hw hy1 hd; exact absurd hn (Nat.not_lt_zero _)
    | succ fu ih =>
      intro y ds1 ls H locs hn hl hw hy1 hd
      refine lv_iload_n (pc := 2) hx hb d_X_distance_2 rfl (lv_at hl 3 rfl) ?_
      refine lv_aload_n (pc := 3) hx hb d_X_distance_3 rfl (lv_at hl 0 rfl) ?_
      refine xg_ln (pc := 4) hC hw d_X_distance_4 ?_
      refine lv_iload_n (pc := 7) hx hb d_X_distance_7 rfl (lv_at hl 2 rfl) ?_
      refine xl_ln (pc := 8) (i := b) (by omega) hC hw d_X_distance_8 ?_
      refine g_top (y := nI V.1) (v2) ?_
      refine nc_gt (pc := 9) (tgt := 25) hx hb d_X_distance_9 (by decide) (by omega) (by omega) (fun hc9 => ?_) (fun hc9 => ?_)
      · refine lv_iconst (pc := 25) (v := nI 1) hx hb d_X_distance_25 (by decide) ?_
        refine lv_istore_n (pc := 26) hx hb d_X_distance_26 rfl hl (by decide) rfl (fun ls hl => ?_)
        have hl : lv_has ls 8 [(3, .int (nI 1)), (0, .ref (g 0)), (1, .int (nI a)), (2, .int (nI b))] := hl
        exact lp2 (T.1 + 1) 0 ds1 _ _ _ (by omega) (lv_sub hl [1, 2, 3, 0] rfl) hw (Nat.zero_le _) (fun j hj => hd j (by omega))
      · refine lv_aload_n (pc := 12) hx hb d_X_distance_12 rfl (lv_at hl 0 rfl) ?_
        refine xg_ds (pc := 13) hC hw d_X_distance_13 ?_
        refine lv_iload_n (pc := 16) hx hb d_X_distance_16 rfl (lv_at hl 3 rfl) ?_
        refine lv_iload_n (pc := 17) hx hb d_X_distance_17 rfl (lv_at hl 3 rfl) ?_
        refine xs_ds (pc := 18) (i := y) (x := nI y) (by omega) hC hw d_X_distance_18 (fun H locs hw => ?_)
        refine lv_iinc (pc := 19) (k := 3) (v := nI (y + 1)) hx hb d_X_distance_19 hl rfl (nI_i1 y) (by decide) rfl (fun ls hl => ?_)
        have hl : lv_has ls 8 [(3, .int (nI (y + 1))), (0, .ref (g 0)), (1, .int (nI a)), (2, .int (nI b))] := hl
        refine lv_goto (pc := 22) (tgt := 2) hx hb d_X_distance_22 (by decide) ?_
        exact ih (y + 1) _ _ _ _ (by omega) (lv_sub hl [1, 2, 3, 0] rfl) hw (by omega) (fun j hj => by
            by_cases e : j = y
            · rw [e, pk_us]
            · rw [pk_un e]; exact hd j (by omega))
  exact lp (V.1 + 2) 0 ds _ _ _ (by omega) (lv_sub hl [1, 2, 3, 0] rfl) hw (Nat.zero_le _) (fun j hj => absurd hj (Nat.not_lt_zero _))
set_option maxHeartbeats 4000000 in
set_option maxRecDepth 100000 in
theorem c_X_different (l : Launch) (D : va_G) (g : Nat → Nat) (k : Nat → ClassId) (tp : Nat → Int32) (tl : Int32) {sg ln : Nat → Int32} (ds : Nat → Int32) {ts : List Tm} (ht : tok ts sg ln) (hlen : ts.length ≤ 150) : gMi l y_X_different (gW y_X_different b_X_different 3 (some .int)) (gR 3) D (xT k) (xw g k) [.ref (g 0)] (tp, tl, sg, ln, (nI ts.length), ds) (fun r u => r = nI (dct ts ts.length) ∧ u = (tp, tl, sg, ln, (nI ts.length), ds)) := by
  refine g_starti (by decide) (Nat.le_of_ble_eq_true rfl) ?_
  intro p ev s m args below meth cd A Q ls hC hQ hl hw
  have hx := hC.1.1
  have hb := hC.1.2.1
  have hl : lv_has ls 3 [(0, .ref (g 0))] := hl
  refine lv_iconst (pc := 0) (v := nI 0) hx hb d_X_different_0 (by decide) ?_
  refine lv_istore_n (pc := 1) hx hb d_X_different_1 rfl hl (by decide) rfl (fun ls hl => ?_)
  have hl : lv_has ls 3 [(1, .int (nI 0)), (0, .ref (g 0))] := hl
  refine lv_iconst (pc := 2) (v := nI 0) hx hb d_X_different_2 (by decide) ?_
  refine lv_istore_n (pc := 3) hx hb d_X_different_3 rfl hl (by decide) rfl (fun ls hl => ?_)
  have hl : lv_has ls 3 [(2, .int (nI 0)), (1, .int (nI 0)), (0, .ref (g 0))] := hl
  have lp : ∀ (fu : Nat) (a : Nat) (ls : Array Slot) (H : Heap) (locs : List Loc), ts.length - a < fu → lv_has ls 3 [(0, .ref (g 0)), (1, .int (nI (dct ts a))), (2, .int (nI a))] → gH D (xw g k) A s.heap (tp, tl, sg, ln, (nI ts.length), ds) H locs → (a ≤ ts.length) → W p l ev (gR 3) s m args below meth cd H locs 0 0 Q (F0 m 4 ls []) := by
    intro fu
    induction fu with
    | zero => intro a ls H locs hn hl hw ha; exact absurd hn (Nat.not_lt_zero _)
    | succ fu ih =>
      intro a ls H locs hn hl hw ha
      refine lv_iload_n (pc := 4) hx hb d_X_different_4 rfl (lv_at hl 2 rfl) ?_
      refine lv_aload_n (pc := 5) hx hb d_X_different_5 rfl (lv_at hl 0 rfl) ?_
      refine xg_tc (pc := 6) hC hw d_X_different_6 ?_
      refine nc_ge (pc := 9) (tgt := 30) hx hb d_X_different_9 (by decide) (by omega) (by omega) (fun hc9 => ?_) (fun hc9 => ?_)
      · have e : a = ts.length := by omega
        subst e
        refine lv_iload_n (pc := 30) hx hb d_X_different_30 rfl (lv_at hl 1 rfl) ?_
        exact hQ _ _ _ _ _ _ hw (rfl) (⟨rfl, rfl⟩) d_X_different_31
      · have hT : ts[a]? = some ts[a] := List.getElem?_eq_getElem (by omega)
        have hd := dct_le ts a
        have hfs : fst ts ts[a] a ≤ 0 + a := fsr_le a 0 (by omega)
        refine lv_aload_n (pc := 12) hx hb d_X_different_12 rfl (lv_at hl 0 rfl) ?_
        refine lv_iload_n (pc := 13) hx hb d_X_different_13 rfl (lv_at hl 2 rfl) ?_
        refine g_calli (pc := 14) (as := [.int (nI a)]) (rest := []) hC hw (c_X_firstSame l D g k tp tl _ ds (a := a) ht hlen hT) lm_X_firstSame f_X_firstSame rfl rfl rfl rfl ⟨by decide, by decide⟩ hl.1 (Nat.le_of_ble_eq_true rfl) d_X_different_14 (fun r u1 H locs hp hw => ?_)
        obtain ⟨rfl, rfl⟩ := hp
        refine lv_iload_n (pc := 17) hx hb d_X_different_17 rfl (lv_at hl 2 rfl) ?_
        refine nc_ne (pc := 18) (tgt := 24) hx hb d_X_different_18 (by decide) (by omega) (by omega) (fun hc18 => ?_) (fun hc18 => ?_)
        · refine lv_iinc (pc := 24) (k := 2) (v := nI (a + 1)) hx hb d_X_different_24 hl rfl (nI_i1 a) (by decide) rfl (fun ls hl => ?_)
          have hl : lv_has ls 3 [(2, .int (nI (a + 1))), (0, .ref (g 0)), (1, .int (nI (dct ts a)))] := hl
          refine lv_goto (pc := 27) (tgt := 4) hx hb d_X_different_27 (by decide) ?_
          exact ih (a + 1) _ _ _ (by omega) (by rw [dct_n hT hc18]; exact (lv_sub hl [1, 2, 0] rfl)) hw (by omega)
        · refine lv_iinc (pc := 21) (k := 1) (v := nI ((dct ts a) + 1)) hx hb d_X_different_21 hl rfl (nI_i1 (dct ts a)) (by decide) rfl (fun ls hl => ?_)
          have hl : lv_has ls 3 [(1, .int (nI ((dct ts a) + 1))), (0, .ref (g 0)), (2, .int (nI a))] := hl
          refine lv_iinc (pc := 24) (k := 2) (v := nI (a + 1)) hx hb d_X_different_24 hl rfl (nI_i1 a) (by decide) rfl (fun ls hl => ?_)
          have hl : lv_has ls 3 [(2, .int (nI (a + 1))), (1, .int (nI ((dct ts a) + 1))), (0, .ref (g 0))] := hl
          refine lv_goto (pc := 27) (tgt := 4) hx hb d_X_different_27 (by decide) ?_
          exact ih (a + 1) _ _ _ (by omega) (by rw [dct_y hT hc18]; exact (lv_sub hl [2, 1, 0] rfl)) hw (by omega)
  exact lp (ts.length + 1) 0 _ _ _ (by omega) (lv_sub hl [2, 1, 0] rfl) hw (Nat.zero_le _)
/-- what first answers -/
def afs (ts : List Tm) (x : Int32) : Int32 := match hasT ts x with
  | none => -2
  | some T => nI (fst ts T x.toNatClampNeg)
theorem afs_none {ts : List Tm} {x : Int32} (h : hasT ts x = none) : -2 = afs ts x := by
  unfold afs
  rw [h]
theorem afs_in {ts : List Tm} {j : Nat} {T : Tm} (h : hasT ts (nI j) = some T) (hj : j < 2 ^ 31) : nI (fst ts T j) = afs ts (nI j) := by
  unfold afs
  rw [h]
  show _ = nI (fst ts T (nI j).toNatClampNeg)
  rw [nI_clamp hj]
/-- what compare answers -/
def acm (ts : List Tm) (x y : Int32) : Int32 := match hasT ts x, hasT ts y with
  | some T, some V => od T V
  | _, _ => -2
theorem acm_n1 {ts : List Tm} {x y : Int32} (h : hasT ts x = none) : -2 = acm ts x y := by
  unfold acm
  rw [h]
theorem acm_n2 {ts : List Tm} {x y : Int32} (h : hasT ts y = none) : -2 = acm ts x y := by
  unfold acm
  rw [h]
  cases hasT ts x <;> rfl
theorem acm_in {ts : List Tm} {x y : Int32} {T V : Tm} (h : hasT ts x = some T) (h2 : hasT ts y = some V) : od T V = acm ts x y := by
  unfold acm
  rw [h, h2]
set_option maxHeartbeats 4000000 in
set_option maxRecDepth 100000 in
theorem c_X_first (l : Launch) (D : va_G) (g : Nat → Nat) (k : Nat → ClassId) (tp : Nat → Int32) (tl : Int32) {sg ln : Nat → Int32} (ds : Nat → Int32) {ts : List Tm} (x : Int32) (ht : tok ts sg ln) (hlen : ts.length ≤ 150) : gMi l y_X_first (gW y_X_first b_X_first 2 (some .int)) (gR 3) D (xT k) (xw g k) [.ref (g 0), .int x] (tp, tl, sg, ln, (nI ts.length), ds) (fun r u => r = afs ts x ∧ u = (tp, tl, sg, ln, (nI ts.length), ds)) := by
  rcases hasT_cases ts x hlen with ⟨hT, hk⟩ | ⟨j, T, hj, rfl, hj2, hT⟩
  · refine g_starti (by decide) (Nat.le_of_ble_eq_true rfl) ?_
    intro p ev s m args below meth cd A Q ls hC hQ hl hw
    have hx := hC.1.1
    have hb := hC.1.2.1
    have hl : lv_has ls 2 [(0, .ref (g 0)), (1, .int x)] := hl
    refine lv_aload_n (pc := 0) hx hb d_X_first_0 rfl (lv_at hl 0 rfl) ?_
    refine lv_iload_n (pc := 1) hx hb d_X_first_1 rfl (lv_at hl 1 rfl) ?_
    refine g_calli (pc := 2) (as := [.int x]) (rest := []) hC hw (c_X_hasTerm_n l D g k tp tl sg ln _ ds hk) lm_X_hasTerm f_X_hasTerm rfl rfl rfl rfl ⟨by decide, by decide⟩ hl.1 (Nat.le_of_ble_eq_true rfl) d_X_first_2 (fun r u1 H locs hp hw => ?_)
    obtain ⟨rfl, rfl⟩ := hp
    refine lv_if_eq (pc := 5) (tgt := 16) hx hb d_X_first_5 (by decide) (fun hc5 => ?_) (fun hc5 => ?_)
    · refine lv_bipush (pc := 16) (v := (-2)) hx hb d_X_first_16 (by decide) ?_
      exact hQ _ _ _ _ _ _ hw (rfl) (⟨afs_none hT, rfl⟩) d_X_first_18
    · exact absurd rfl hc5
  · refine g_starti (by decide) (Nat.le_of_ble_eq_true rfl) ?_
    intro p ev s m args below meth cd A Q ls hC hQ hl hw
    have hx := hC.1.1
    have hb := hC.1.2.1
    have hl : lv_has ls 2 [(0, .ref (g 0)), (1, .int (nI j))] := hl
    refine lv_aload_n (pc := 0) hx hb d_X_first_0 rfl (lv_at hl 0 rfl) ?_
    refine lv_iload_n (pc := 1) hx hb d_X_first_1 rfl (lv_at hl 1 rfl) ?_
    refine g_calli (pc := 2) (as := [.int (nI j)]) (rest := []) hC hw (c_X_hasTerm_y l D g k tp tl sg ln ds hj hlen) lm_X_hasTerm f_X_hasTerm rfl rfl rfl rfl ⟨by decide, by decide⟩ hl.1 (Nat.le_of_ble_eq_true rfl) d_X_first_2 (fun r u1 H locs hp hw => ?_)
    obtain ⟨rfl, rfl⟩ := hp
    refine lv_if_eq (pc := 5) (tgt := 16) hx hb d_X_first_5 (by decide) (fun hc5 => ?_) (fun hc5 => ?_)
    · exact absurd hc5 (by decide)
    · refine lv_aload_n (pc := 8) hx hb d_X_first_8 rfl (lv_at hl 0 rfl) ?_
      refine lv_iload_n (pc := 9) hx hb d_X_first_9 rfl (lv_at hl 1 rfl) ?_
      refine g_calli (pc := 10) (as := [.int (nI j)]) (rest := []) hC hw (c_X_firstSame l D g k tp tl _ ds (a := j) ht hlen hj2) lm_X_firstSame f_X_firstSame rfl rfl rfl rfl ⟨by decide, by decide⟩ hl.1 (Nat.le_of_ble_eq_true rfl) d_X_first_10 (fun r u1 H locs hp hw => ?_)
      obtain ⟨rfl, rfl⟩ := hp
      refine lv_goto (pc := 13) (tgt := 18) hx hb d_X_first_13 (by decide) ?_
      exact hQ _ _ _ _ _ _ hw (rfl) (⟨afs_in hT (by omega), rfl⟩) d_X_first_18
set_option maxHeartbeats 4000000 in
set_option maxRecDepth 100000 in
theorem c_X_compare (l : Launch) (D : va_G) (g : Nat → Nat) (k : Nat → ClassId) (tp : Nat → Int32) (tl : Int32) {sg ln : Nat → Int32} (ds : Nat → Int32) {ts : List Tm} (x y : Int32) (ht : tok ts sg ln) (hlen : ts.length ≤ 150) : gMi l y_X_compare (gW y_X_compare b_X_compare 3 (some .int)) (gR 2) D (xT k) (xw g k) [.ref (g 0), .int x, .int y] (tp, tl, sg, ln, (nI ts.length), ds) (fun r u => r = acm ts x y ∧ u = (tp, tl, sg, ln, (nI ts.length), ds)) := by
  rcases hasT_cases ts x hlen with ⟨hT, hk⟩ | ⟨j, T, hj, rfl, hj2, hT⟩
  · refine g_starti (by decide) (Nat.le_of_ble_eq_true rfl) ?_
    intro p ev s m args below meth cd A Q ls hC hQ hl hw
    have hx := hC.1.1
    have hb := hC.1.2.1
    have hl : lv_has ls 3 [(0, .ref (g 0)), (1, .int x), (2, .int y)] := hl
    refine lv_aload_n (pc := 0) hx hb d_X_compare_0 rfl (lv_at hl 0 rfl) ?_
    refine lv_iload_n (pc := 1) hx hb d_X_compare_1 rfl (lv_at hl 1 rfl) ?_
    refine g_calli (pc := 2) (as := [.int x]) (rest := []) hC hw (c_X_hasTerm_n l D g k tp tl sg ln _ ds hk) lm_X_hasTerm f_X_hasTerm rfl rfl rfl rfl ⟨by decide, by decide⟩ hl.1 (Nat.le_of_ble_eq_true rfl) d_X_compare_2 (fun r u1 H locs hp hw => ?_)
    obtain ⟨rfl, rfl⟩ := hp
    refine lv_if_eq (pc := 5) (tgt := 25) hx hb d_X_compare_5 (by decide) (fun hc5 => ?_) (fun hc5 => ?_)
    · refine lv_bipush (pc := 25) (v := (-2)) hx hb d_X_compare_25 (by decide) ?_
      exact hQ _ _ _ _ _ _ hw (rfl) (⟨acm_n1 hT, rfl⟩) d_X_compare_27
    · exact absurd rfl hc5
  · rcases hasT_cases ts y hlen with ⟨hV, hk⟩ | ⟨z, V, hz, rfl, hz2, hV⟩
    · refine g_starti (by decide) (Nat.le_of_ble_eq_true rfl) ?_
      intro p ev s m args below meth cd A Q ls hC hQ hl hw
      have hx := hC.1.1
      have hb := hC.1.2.1
      have hl : lv_has ls 3 [(0, .ref (g 0)), (1, .int (nI j)), (2, .int y)] := hl
      refine lv_aload_n (pc := 0) hx hb d_X_compare_0 rfl (lv_at hl 0 rfl) ?_
      refine lv_iload_n (pc := 1) hx hb d_X_compare_1 rfl (lv_at hl 1 rfl) ?_
      refine g_calli (pc := 2) (as := [.int (nI j)]) (rest := []) hC hw (c_X_hasTerm_y l D g k tp tl sg ln ds hj hlen) lm_X_hasTerm f_X_hasTerm rfl rfl rfl rfl ⟨by decide, by decide⟩ hl.1 (Nat.le_of_ble_eq_true rfl) d_X_compare_2 (fun r u1 H locs hp hw => ?_)
      obtain ⟨rfl, rfl⟩ := hp
      refine lv_if_eq (pc := 5) (tgt := 25) hx hb d_X_compare_5 (by decide) (fun hc5 => ?_) (fun hc5 => ?_)
      · exact absurd hc5 (by decide)
      · refine lv_aload_n (pc := 8) hx hb d_X_compare_8 rfl (lv_at hl 0 rfl) ?_
        refine lv_iload_n (pc := 9) hx hb d_X_compare_9 rfl (lv_at hl 2 rfl) ?_
        refine g_calli (pc := 10) (as := [.int y]) (rest := []) hC hw (c_X_hasTerm_n l D g k tp tl sg ln _ ds hk) lm_X_hasTerm f_X_hasTerm rfl rfl rfl rfl ⟨by decide, by decide⟩ hl.1 (Nat.le_of_ble_eq_true rfl) d_X_compare_10 (fun r u1 H locs hp hw => ?_)
        obtain ⟨rfl, rfl⟩ := hp
        refine lv_if_eq (pc := 13) (tgt := 25) hx hb d_X_compare_13 (by decide) (fun hc13 => ?_) (fun hc13 => ?_)
        · refine lv_bipush (pc := 25) (v := (-2)) hx hb d_X_compare_25 (by decide) ?_
          exact hQ _ _ _ _ _ _ hw (rfl) (⟨acm_n2 hV, rfl⟩) d_X_compare_27
        · exact absurd rfl hc13
    · refine g_starti (by decide) (Nat.le_of_ble_eq_true rfl) ?_
      intro p ev s m args below meth cd A Q ls hC hQ hl hw
      have hx := hC.1.1
      have hb := hC.1.2.1
      have hl : lv_has ls 3 [(0, .ref (g 0)), (1, .int (nI j)), (2, .int (nI z))] := hl
      refine lv_aload_n (pc := 0) hx hb d_X_compare_0 rfl (lv_at hl 0 rfl) ?_
      refine lv_iload_n (pc := 1) hx hb d_X_compare_1 rfl (lv_at hl 1 rfl) ?_
      refine g_calli (pc := 2) (as := [.int (nI j)]) (rest := []) hC hw (c_X_hasTerm_y l D g k tp tl sg ln ds hj hlen) lm_X_hasTerm f_X_hasTerm rfl rfl rfl rfl ⟨by decide, by decide⟩ hl.1 (Nat.le_of_ble_eq_true rfl) d_X_compare_2 (fun r u1 H locs hp hw => ?_)
      obtain ⟨rfl, rfl⟩ := hp
      refine lv_if_eq (pc := 5) (tgt := 25) hx hb d_X_compare_5 (by decide) (fun hc5 => ?_) (fun hc5 => ?_)
      · exact absurd hc5 (by decide)
      · refine lv_aload_n (pc := 8) hx hb d_X_compare_8 rfl (lv_at hl 0 rfl) ?_
        refine lv_iload_n (pc := 9) hx hb d_X_compare_9 rfl (lv_at hl 2 rfl) ?_
        refine g_calli (pc := 10) (as := [.int (nI z)]) (rest := []) hC hw (c_X_hasTerm_y l D g k tp tl sg ln ds hz hlen) lm_X_hasTerm f_X_hasTerm rfl rfl rfl rfl ⟨by decide, by decide⟩ hl.1 (Nat.le_of_ble_eq_true rfl) d_X_compare_10 (fun r u1 H locs hp hw => ?_)
        obtain ⟨rfl, rfl⟩ := hp
        refine lv_if_eq (pc := 13) (tgt := 25) hx hb d_X_compare_13 (by decide) (fun hc13 => ?_) (fun hc13 => ?_)
        · exact absurd hc13 (by decide)
        · refine lv_aload_n (pc := 16) hx hb d_X_compare_16 rfl (lv_at hl 0 rfl) ?_
          refine lv_iload_n (pc := 17) hx hb d_X_compare_17 rfl (lv_at hl 1 rfl) ?_
          refine lv_iload_n (pc := 18) hx hb d_X_compare_18 rfl (lv_at hl 2 rfl) ?_
          refine g_calli (pc := 19) (as := [.int (nI j), .int (nI z)]) (rest := []) hC hw (c_X_order l D g k tp tl sg ln _ ds (a := j) (b := z) (by omega) (by omega) (ht j _ hj2) (ht z _ hz2)) lm_X_order f_X_order rfl rfl rfl rfl ⟨by decide, by decide⟩ hl.1 (Nat.le_of_ble_eq_true rfl) d_X_compare_19 (fun r u1 H locs hp hw => ?_)
          obtain ⟨rfl, rfl⟩ := hp
          refine lv_goto (pc := 22) (tgt := 27) hx hb d_X_compare_22 (by decide) ?_
          exact hQ _ _ _ _ _ _ hw (rfl) (⟨acm_in hT hV, rfl⟩) d_X_compare_27
set_option maxHeartbeats 4000000 in
set_option maxRecDepth 100000 in
theorem c_X_apart (l : Launch) (D : va_G) (g : Nat → Nat) (k : Nat → ClassId) (tp : Nat → Int32) {sg ln : Nat → Int32} (ds : Nat → Int32) {n : Nat} {ts : List Tm} (x : Int32) (ht : tok ts sg ln) (hlen : ts.length ≤ 150) {f : Nat → Int32} (h : n ≤ 300) (hf : ∀ i, i < n → tp i = f i ∧ by_ok (f i)) : gMi l y_X_apart (gW y_X_apart b_X_apart 2 (some .int)) (gR 5) D (xT k) (xw g k) [.ref (g 0), .int x] (tp, (nI n), sg, ln, (nI ts.length), ds) (fun r u => (hasT ts x = none ∧ r = -2 ∧ u = (tp, (nI n), sg, ln, (nI ts.length), ds)) ∨ ∃ T, hasT ts x = some T ∧ r = (if isW f n = true then nI (lev T (stm f n)) else -1) ∧ ∃ tp1 sg1 ln1 ds1, u = (tp1, nI 0, sg1, ln1, nI ts.length, ds1) ∧ tok ts sg1 ln1) := by
  rcases hasT_cases ts x hlen with ⟨hT, hk⟩ | ⟨j, T, hj, rfl, hj2, hT⟩
  · refine g_starti (by decide) (Nat.le_of_ble_eq_true rfl) ?_
    intro p ev s m args below meth cd A Q ls hC hQ hl hw
    have hx := hC.1.1
    have hb := hC.1.2.1
    have hl : lv_has ls 2 [(0, .ref (g 0)), (1, .int x)] := hl
    refine lv_aload_n (pc := 0) hx hb d_X_apart_0 rfl (lv_at hl 0 rfl) ?_
    refine lv_iload_n (pc := 1) hx hb d_X_apart_1 rfl (lv_at hl 1 rfl) ?_
    refine g_calli (pc := 2) (as := [.int x]) (rest := []) hC hw (c_X_hasTerm_n l D g k tp _ sg ln _ ds hk) lm_X_hasTerm f_X_hasTerm rfl rfl rfl rfl ⟨by decide, by decide⟩ hl.1 (Nat.le_of_ble_eq_true rfl) d_X_apart_2 (fun r u1 H locs hp hw => ?_)
    obtain ⟨rfl, rfl⟩ := hp
    refine lv_if_ne (pc := 5) (tgt := 11) hx hb d_X_apart_5 (by decide) (fun hc5 => ?_) (fun hc5 => ?_)
    · exact absurd rfl hc5
    · refine lv_bipush (pc := 8) (v := (-2)) hx hb d_X_apart_8 (by decide) ?_
      exact hQ _ _ _ _ _ _ hw (rfl) (Or.inl ⟨hT, rfl, rfl⟩) d_X_apart_10
  · refine g_starti (by decide) (Nat.le_of_ble_eq_true rfl) ?_
    intro p ev s m args below meth cd A Q ls hC hQ hl hw
    have hx := hC.1.1
    have hb := hC.1.2.1
    have hl : lv_has ls 2 [(0, .ref (g 0)), (1, .int (nI j))] := hl
    refine lv_aload_n (pc := 0) hx hb d_X_apart_0 rfl (lv_at hl 0 rfl) ?_
    refine lv_iload_n (pc := 1) hx hb d_X_apart_1 rfl (lv_at hl 1 rfl) ?_
    refine g_calli (pc := 2) (as := [.int (nI j)]) (rest := []) hC hw (c_X_hasTerm_y l D g k tp _ sg ln ds hj hlen) lm_X_hasTerm f_X_hasTerm rfl rfl rfl rfl ⟨by decide, by decide⟩ hl.1 (Nat.le_of_ble_eq_true rfl) d_X_apart_2 (fun r u1 H locs hp hw => ?_)
    obtain ⟨rfl, rfl⟩ := hp
    refine lv_if_ne (pc := 5) (tgt := 11) hx hb d_X_apart_5 (by decide) (fun hc5 => ?_) (fun hc5 => ?_)
    · refine lv_aload_n (pc := 11) hx hb d_X_apart_11 rfl (lv_at hl 0 rfl) ?_
      refine g_calli (pc := 12) (as := []) (rest := []) hC hw (c_X_takeTapeTerm l D g k tp sg ln _ ds h hf) lm_X_takeTapeTerm f_X_takeTapeTerm rfl rfl rfl rfl ⟨by decide, by decide⟩ hl.1 (Nat.le_of_ble_eq_true rfl) d_X_apart_12 (fun r u1 H locs hp hw => ?_)
      rcases hp with ⟨hW, rfl, tp1, sg1, ln1, rfl, hwr⟩ | ⟨hW, rfl, rfl⟩
      · refine lv_if_eq (pc := 15) (tgt := 29) hx hb d_X_apart_15 (by decide) (fun hc15 => ?_) (fun hc15 => ?_)
        · exact absurd hc15 (by decide)
        · refine lv_aload_n (pc := 18) hx hb d_X_apart_18 rfl (lv_at hl 0 rfl) ?_
          refine lv_iload_n (pc := 19) hx hb d_X_apart_19 rfl (lv_at hl 1 rfl) ?_
          refine lv_sipush (pc := 20) (v := nI 150) hx hb d_X_apart_20 (by decide) ?_
          refine g_calli (pc := 23) (as := [.int (nI j), .int (nI 150)]) (rest := []) hC hw (c_X_distance l D g k tp1 _ sg1 ln1 _ ds (a := j) (b := 150) (by omega) (by omega) (wrt_keep hwr (by omega) (ht j _ hj2)) (wrt_at hwr)) lm_X_distance f_X_distance rfl rfl rfl rfl ⟨by decide, by decide⟩ hl.1 (Nat.le_of_ble_eq_true rfl) d_X_apart_23 (fun r u1 H locs hp hw => ?_)
          obtain ⟨rfl, ds1, rfl⟩ := hp
          refine lv_goto (pc := 26) (tgt := 30) hx hb d_X_apart_26 (by decide) ?_
          exact hQ _ _ _ _ _ _ hw (rfl) (Or.inr ⟨T, hT, by rw [if_pos hW], tp1, sg1, ln1, ds1, rfl, tok_keep ht hwr hlen⟩) d_X_apart_30
      · refine lv_if_eq (pc := 15) (tgt := 29) hx hb d_X_apart_15 (by decide) (fun hc15 => ?_) (fun hc15 => ?_)
        · refine lv_iconst (pc := 29) (v := (-1)) hx hb d_X_apart_29 (by decide) ?_
          exact hQ _ _ _ _ _ _ hw (rfl) (Or.inr ⟨T, hT, by rw [if_neg (by rw [hW]; decide)], tp, sg, ln, ds, rfl, ht⟩) d_X_apart_30
        · exact absurd rfl hc15
    · exact absurd hc5 (by decide)
set_option maxHeartbeats 4000000 in
set_option maxRecDepth 100000 in
theorem c_X_nearest (l : Launch) (D : va_G) (g : Nat → Nat) (k : Nat → ClassId) (tp : Nat → Int32) {sg ln : Nat → Int32} (ds : Nat → Int32) {n : Nat} {ts : List Tm} (ht : tok ts sg ln) (hlen : ts.length ≤ 150) {f : Nat → Int32} (h : n ≤ 300) (hf : ∀ i, i < n → tp i = f i ∧ by_ok (f i)) : gMi l y_X_nearest (gW y_X_nearest b_X_nearest 5 (some .int)) (gR 5) D (xT k) (xw g k) [.ref (g 0)] (tp, (nI n), sg, ln, (nI ts.length), ds) (fun r u => r = (if isW f n = true then (nbs ts (stm f n) 25 ts.length).1 else -1) ∧ ∃ tp1 sg1 ln1 ds1, u = (tp1, nI 0, sg1, ln1, nI ts.length, ds1) ∧ tok ts sg1 ln1) := by
  refine g_starti (by decide) (Nat.le_of_ble_eq_true rfl) ?_
  intro p ev s m args below meth cd A Q ls hC hQ hl hw
  have hx := hC.1.1
  have hb := hC.1.2.1
  have hl : lv_has ls 5 [(0, .ref (g 0))] := hl
  refine lv_aload_n (pc := 0) hx hb d_X_nearest_0 rfl (lv_at hl 0 rfl) ?_
  refine g_calli (pc := 1) (as := []) (rest := []) hC hw (c_X_takeTapeTerm l D g k tp sg ln _ ds h hf) lm_X_takeTapeTerm f_X_takeTapeTerm rfl rfl rfl rfl ⟨by decide, by decide⟩ hl.1 (Nat.le_of_ble_eq_true rfl) d_X_nearest_1 (fun r u1 H locs hp hw => ?_)
  rcases hp with ⟨hW, rfl, tp1, sg1, ln1, rfl, hwr⟩ | ⟨hW, rfl, rfl⟩
  · refine lv_if_ne (pc := 4) (tgt := 9) hx hb d_X_nearest_4 (by decide) (fun hc4 => ?_) (fun hc4 => ?_)
    · have ht1 := tok_keep ht hwr hlen
      refine lv_bipush (pc := 9) (v := (-2)) hx hb d_X_nearest_9 (by decide) ?_
      refine lv_istore_n (pc := 11) hx hb d_X_nearest_11 rfl hl (by decide) rfl (fun ls hl => ?_)
      have hl : lv_has ls 5 [(1, .int ((-2))), (0, .ref (g 0))] := hl
      refine lv_bipush (pc := 12) (v := nI 25) hx hb d_X_nearest_12 (by decide) ?_
      refine lv_istore_n (pc := 14) hx hb d_X_nearest_14 rfl hl (by decide) rfl (fun ls hl => ?_)
      have hl : lv_has ls 5 [(2, .int (nI 25)), (1, .int ((-2))), (0, .ref (g 0))] := hl
      refine lv_iconst (pc := 15) (v := nI 0) hx hb d_X_nearest_15 (by decide) ?_
      refine lv_istore_n (pc := 16) hx hb d_X_nearest_16 rfl hl (by decide) rfl (fun ls hl => ?_)
      have hl : lv_has ls 5 [(3, .int (nI 0)), (2, .int (nI 25)), (1, .int ((-2))), (0, .ref (g 0))] := hl
      have lp : ∀ (fu : Nat) (a : Nat) (ds1 : Nat → Int32) (ls : Array Slot) (H : Heap) (locs : List Loc), ts.length - a < fu → lv_has ls 5 [(0, .ref (g 0)), (1, .int ((nbs ts (stm f n) 25 a).1)), (2, .int (nI ((nbs ts (stm f n) 25 a).2))), (3, .int (nI a))] → gH D (xw g k) A s.heap (tp1, (nI 0), sg1, ln1, (nI ts.length), ds1) H locs → (a ≤ ts.length) → W p l ev (gR 5) s m args below meth cd H locs 0 0 Q (F0 m 17 ls []) := by
        intro fu
        induction fu with
        | zero => intro a ds1 ls H locs hn hl hw ha; exact absurd hn (Nat.not_lt_zero _)
        | succ fu ih =>
          intro a ds1 ls H locs hn hl hw ha
          refine lv_iload_n (pc := 17) hx hb d_X_nearest_17 rfl (lv_at hl 3 rfl) ?_
          refine lv_aload_n (pc := 18) hx hb d_X_nearest_18 rfl (lv_at hl 0 rfl) ?_
          refine xg_tc (pc := 19) hC hw d_X_nearest_19 ?_
          refine nc_ge (pc := 22) (tgt := 52) hx hb d_X_nearest_22 (by decide) (by omega) (by omega) (fun hc22 => ?_) (fun hc22 => ?_)
          · have e : a = ts.length := by omega
            subst e
            refine lv_iload_n (pc := 52) hx hb d_X_nearest_52 rfl (lv_at hl 1 rfl) ?_
            exact hQ _ _ _ _ _ _ hw (rfl) (⟨by rw [if_pos hW], tp1, sg1, ln1, ds1, rfl, ht1⟩) d_X_nearest_53
          · have hT : ts[a]? = some ts[a] := List.getElem?_eq_getElem (by omega)
            have hb1 := nbs_le ts (stm f n) 25 a
            have hb2 : lev ts[a] (stm f n) ≤ 24 := lev_le (ht1 a _ hT).1 (stm_le _ _)
            refine lv_aload_n (pc := 25) hx hb d_X_nearest_25 rfl (lv_at hl 0 rfl) ?_
            refine lv_iload_n (pc := 26) hx hb d_X_nearest_26 rfl (lv_at hl 3 rfl) ?_
            refine lv_sipush (pc := 27) (v := nI 150) hx hb d_X_nearest_27 (by decide) ?_
            refine g_calli (pc := 30) (as := [.int (nI a), .int (nI 150)]) (rest := []) hC hw (c_X_distance l D g k tp1 _ sg1 ln1 _ ds1 (a := a) (b := 150) (by omega) (by omega) (ht1 a _ hT) (wrt_at hwr)) lm_X_distance f_X_distance rfl rfl rfl rfl ⟨by decide, by decide⟩ hl.1 (Nat.le_of_ble_eq_true rfl) d_X_nearest_30 (fun r u1 H locs hp hw => ?_)
            obtain ⟨rfl, ds2, rfl⟩ := hp
            refine lv_istore (pc := 33) hx hb d_X_nearest_33 hl (by decide) rfl (fun ls hl => ?_)
            have hl : lv_has ls 5 [(4, .int (nI (lev ts[a] (stm f n)))), (0, .ref (g 0)), (1, .int ((nbs ts (stm f n) 25 a).1)), (2, .int (nI ((nbs ts (stm f n) 25 a).2))), (3, .int (nI a))] := hl
            refine lv_iload (pc := 35) hx hb d_X_nearest_35 (lv_at hl 0 rfl) ?_
            refine lv_iload_n (pc := 37) hx hb d_X_nearest_37 rfl (lv_at hl 3 rfl) ?_
            refine nc_ge (pc := 38) (tgt := 46) hx hb d_X_nearest_38 (by decide) (by omega) (by omega) (fun hc38 => ?_) (fun hc38 => ?_)
            · refine lv_iinc (pc := 46) (k := 4) (v := nI (a + 1)) hx hb d_X_nearest_46 hl rfl (nI_i1 a) (by decide) rfl (fun ls hl => ?_)
              have hl : lv_has ls 5 [(3, .int (nI (a + 1))), (4, .int (nI (lev ts[a] (stm f n)))), (0, .ref (g 0)), (1, .int ((nbs ts (stm f n) 25 a).1)), (2, .int (nI ((nbs ts (stm f n) 25 a).2)))] := hl
              refine lv_goto (pc := 49) (tgt := 17) hx hb d_X_nearest_49 (by decide) ?_
              exact ih (a + 1) ds2 _ _ _ (by omega) (by rw [nbs_n hT (by omega)]; exact (lv_sub hl [2, 3, 4, 0] rfl)) hw (by omega)
            · refine lv_iload (pc := 41) hx hb d_X_nearest_41 (lv_at hl 0 rfl) ?_
              refine lv_istore_n (pc := 43) hx hb d_X_nearest_43 rfl hl (by decide) rfl (fun ls hl => ?_)
              have hl : lv_has ls 5 [(2, .int (nI (lev ts[a] (stm f n)))), (4, .int (nI (lev ts[a] (stm f n)))), (0, .ref (g 0)), (1, .int ((nbs ts (stm f n) 25 a).1)), (3, .int (nI a))] := hl
              refine lv_iload_n (pc := 44) hx hb d_X_nearest_44 rfl (lv_at hl 4 rfl) ?_
              refine lv_istore_n (pc := 45) hx hb d_X_nearest_45 rfl hl (by decide) rfl (fun ls hl => ?_)
              have hl : lv_has ls 5 [(1, .int (nI a)), (2, .int (nI (lev ts[a] (stm f n)))), (4, .int (nI (lev ts[a] (stm f n)))), (0, .ref (g 0)), (3, .int (nI a))] := hl
              refine lv_iinc (pc := 46) (k := 4) (v := nI (a + 1)) hx hb d_X_nearest_46 hl rfl (nI_i1 a) (by decide) rfl (fun ls hl => ?_)
              have hl : lv_has ls 5 [(3, .int (nI (a + 1))), (1, .int (nI a)), (2, .int (nI (lev ts[a] (stm f n)))), (4, .int (nI (lev ts[a] (stm f n)))), (0, .ref (g 0))] := hl
              refine lv_goto (pc := 49) (tgt := 17) hx hb d_X_nearest_49 (by decide) ?_
              exact ih (a + 1) ds2 _ _ _ (by omega) (by rw [nbs_y hT (by omega)]; exact (lv_sub hl [4, 1, 2, 0] rfl)) hw (by omega)
      exact lp (ts.length + 1) 0 ds _ _ _ (by omega) (lv_sub hl [3, 2, 1, 0] rfl) hw (Nat.zero_le _)
    · exact absurd hc4 (by decide)
  · refine lv_if_ne (pc := 4) (tgt := 9) hx hb d_X_nearest_4 (by decide) (fun hc4 => ?_) (fun hc4 => ?_)
    · exact absurd rfl hc4
    · refine lv_iconst (pc := 7) (v := (-1)) hx hb d_X_nearest_7 (by decide) ?_
      exact hQ _ _ _ _ _ _ hw (rfl) (⟨by rw [if_neg (by rw [hW]; decide)], tp, sg, ln, ds, rfl, ht⟩) d_X_nearest_8
set_option maxHeartbeats 4000000 in
set_option maxRecDepth 100000 in
theorem c_X_plain (l : Launch) (D : va_G) (g : Nat → Nat) (k : Nat → ClassId) (tp : Nat → Int32) {sg ln : Nat → Int32} (ds : Nat → Int32) {n : Nat} {ts : List Tm} (ht : tok ts sg ln) (hlen : ts.length ≤ 150) {f : Nat → Int32} (h : n ≤ 300) (hf : ∀ i, i < n → tp i = f i ∧ by_ok (f i)) : gMi l y_X_plain (gW y_X_plain b_X_plain 2 (some .int)) (gR 3) D (xT k) (xw g k) [.ref (g 0)] (tp, (nI n), sg, ln, (nI ts.length), ds) (fun r u => (isW f n = true ∧ ts.length < 150 ∧ r = nI (ts.length + 1) ∧ ∃ sg1 ln1, u = (tp, nI 0, sg1, ln1, nI (ts.length + 1), ds) ∧ wrt sg ln sg1 ln1 ts.length (pln f n)) ∨ (¬ (isW f n = true ∧ ts.length < 150) ∧ r = -1 ∧ u = (tp, nI 0, sg, ln, nI ts.length, ds))) := by
  refine g_starti (by decide) (Nat.le_of_ble_eq_true rfl) ?_
  intro p ev s m args below meth cd A Q ls hC hQ hl hw
  have hx := hC.1.1
  have hb := hC.1.2.1
  have hl : lv_has ls 2 [(0, .ref (g 0))] := hl
  have hW := isW_congr (fun i hi => (hf i hi).1)
  have hpl := pln_ext (w := tp) (v := f) (n := n) (fun i hi => (hf i hi).1)
  refine lv_aload_n (pc := 0) hx hb d_X_plain_0 rfl (lv_at hl 0 rfl) ?_
  refine g_calli (pc := 1) (as := []) (rest := []) hC hw (c_X_tapeIsWord l D g k tp sg ln _ ds h) lm_X_tapeIsWord f_X_tapeIsWord rfl rfl rfl rfl ⟨by decide, by decide⟩ hl.1 (Nat.le_of_ble_eq_true rfl) d_X_plain_1 (fun r u1 H locs hp hw => ?_)
  obtain ⟨rfl, rfl⟩ := hp
  refine g_top (y := bI (isW f n)) (by rw [hW]) ?_
  refine lv_if_eq (pc := 4) (tgt := 21) hx hb d_X_plain_4 (by decide) (fun hc4 => ?_) (fun hc4 => ?_)
  · refine lv_iconst (pc := 21) (v := 0) hx hb d_X_plain_21 (by decide) ?_
    refine lv_istore_n (pc := 22) hx hb d_X_plain_22 rfl hl (by decide) rfl (fun ls hl => ?_)
    have hl : lv_has ls 2 [(1, .int 0), (0, .ref (g 0))] := hl
    refine lv_iload_n (pc := 23) hx hb d_X_plain_23 rfl (lv_at hl 0 rfl) ?_
    refine lv_if_eq (pc := 24) (tgt := 50) hx hb d_X_plain_24 (by decide) (fun hc24 => ?_) (fun hc24 => ?_)
    · refine lv_aload_n (pc := 50) hx hb d_X_plain_50 rfl (lv_at hl 1 rfl) ?_
      refine lv_iconst (pc := 51) (v := nI 0) hx hb d_X_plain_51 (by decide) ?_
      refine xp_tl (pc := 52) hC hw d_X_plain_52 (fun H locs hw => ?_)
      have hw : gH D (xw g k) A _ (tp, (nI 0), sg, ln, (nI ts.length), ds) H locs := hw
      refine lv_iload_n (pc := 55) hx hb d_X_plain_55 rfl (lv_at hl 0 rfl) ?_
      refine lv_if_eq (pc := 56) (tgt := 66) hx hb d_X_plain_56 (by decide) (fun hc56 => ?_) (fun hc56 => ?_)
      · refine lv_iconst (pc := 66) (v := (-1)) hx hb d_X_plain_66 (by decide) ?_
        exact hQ _ _ _ _ _ _ hw (rfl) (Or.inr ⟨fun q => absurd q.1 (by rw [bI_0 hc4]; decide), rfl, rfl⟩) d_X_plain_67
      · exact absurd rfl hc56
    · exact absurd rfl hc24
  · have hy := bI_1 hc4
    refine lv_aload_n (pc := 7) hx hb d_X_plain_7 rfl (lv_at hl 0 rfl) ?_
    refine xg_tc (pc := 8) hC hw d_X_plain_8 ?_
    refine lv_sipush (pc := 11) (v := nI 150) hx hb d_X_plain_11 (by decide) ?_
    refine nc_ge (pc := 14) (tgt := 21) hx hb d_X_plain_14 (by decide) (by omega) (by omega) (fun hc14 => ?_) (fun hc14 => ?_)
    · refine lv_iconst (pc := 21) (v := 0) hx hb d_X_plain_21 (by decide) ?_
      refine lv_istore_n (pc := 22) hx hb d_X_plain_22 rfl hl (by decide) rfl (fun ls hl => ?_)
      have hl : lv_has ls 2 [(1, .int 0), (0, .ref (g 0))] := hl
      refine lv_iload_n (pc := 23) hx hb d_X_plain_23 rfl (lv_at hl 0 rfl) ?_
      refine lv_if_eq (pc := 24) (tgt := 50) hx hb d_X_plain_24 (by decide) (fun hc24 => ?_) (fun hc24 => ?_)
      · refine lv_aload_n (pc := 50) hx hb d_X_plain_50 rfl (lv_at hl 1 rfl) ?_
        refine lv_iconst (pc := 51) (v := nI 0) hx hb d_X_plain_51 (by decide) ?_
        refine xp_tl (pc := 52) hC hw d_X_plain_52 (fun H locs hw => ?_)
        have hw : gH D (xw g k) A _ (tp, (nI 0), sg, ln, (nI ts.length), ds) H locs := hw
        refine lv_iload_n (pc := 55) hx hb d_X_plain_55 rfl (lv_at hl 0 rfl) ?_
        refine lv_if_eq (pc := 56) (tgt := 66) hx hb d_X_plain_56 (by decide) (fun hc56 => ?_) (fun hc56 => ?_)
        · refine lv_iconst (pc := 66) (v := (-1)) hx hb d_X_plain_66 (by decide) ?_
          exact hQ _ _ _ _ _ _ hw (rfl) (Or.inr ⟨fun q => absurd q.2 (by omega), rfl, rfl⟩) d_X_plain_67
        · exact absurd rfl hc56
      · exact absurd rfl hc24
    · refine lv_iconst (pc := 17) (v := 1) hx hb d_X_plain_17 (by decide) ?_
      refine lv_goto (pc := 18) (tgt := 22) hx hb d_X_plain_18 (by decide) ?_
      refine lv_istore_n (pc := 22) hx hb d_X_plain_22 rfl hl (by decide) rfl (fun ls hl => ?_)
      have hl : lv_has ls 2 [(1, .int 1), (0, .ref (g 0))] := hl
      refine lv_iload_n (pc := 23) hx hb d_X_plain_23 rfl (lv_at hl 0 rfl) ?_
      refine lv_if_eq (pc := 24) (tgt := 50) hx hb d_X_plain_24 (by decide) (fun hc24 => ?_) (fun hc24 => ?_)
      · exact absurd hc24 (by decide)
      · refine lv_aload_n (pc := 27) hx hb d_X_plain_27 rfl (lv_at hl 1 rfl) ?_
        refine lv_aload_n (pc := 28) hx hb d_X_plain_28 rfl (lv_at hl 1 rfl) ?_
        refine xg_tc (pc := 29) hC hw d_X_plain_29 ?_
        refine lv_iconst (pc := 32) (v := nI 0) hx hb d_X_plain_32 (by decide) ?_
        refine lv_aload_n (pc := 33) hx hb d_X_plain_33 rfl (lv_at hl 1 rfl) ?_
        refine xg_tl (pc := 34) hC hw d_X_plain_34 ?_
        refine g_callv (pc := 37) (as := [.int (nI (ts.length)), .int (nI 0), .int (nI n)]) (rest := []) hC hw (c_X_writeSigns l D g k tp _ sg ln _ ds (j := ts.length) (a := 0) (b := n) (by omega) (Nat.zero_le _) h (fun i _ q => by rw [(hf i q).1]; exact (hf i q).2)) lm_X_writeSigns f_X_writeSigns rfl rfl rfl rfl ⟨by decide, by decide⟩ hl.1 (Nat.le_of_ble_eq_true rfl) d_X_plain_37 (fun u1 H locs hp hw => ?_)
        obtain ⟨sg1, ln1, rfl, hwr⟩ := hp
        rw [z_add] at hwr
        have hwr := wrt_ext hwr hpl.1 hpl.2
        refine lv_aload_n (pc := 40) hx hb d_X_plain_40 rfl (lv_at hl 1 rfl) ?_
        refine lv_dup (pc := 41) hx hb d_X_plain_41 rfl ?_
        refine xg_tc (pc := 42) hC hw d_X_plain_42 ?_
        refine lv_iconst (pc := 45) (v := nI 1) hx hb d_X_plain_45 (by decide) ?_
        refine lv_iadd (pc := 46) hx hb d_X_plain_46 ?_
        refine g_top (y := nI (ts.length + 1)) (nI_add _ _) ?_
        refine xp_tc (pc := 47) hC hw d_X_plain_47 (fun H locs hw => ?_)
        have hw : gH D (xw g k) A _ (tp, (nI n), sg1, ln1, (nI (ts.length + 1)), ds) H locs := hw
        refine lv_aload_n (pc := 50) hx hb d_X_plain_50 rfl (lv_at hl 1 rfl) ?_
        refine lv_iconst (pc := 51) (v := nI 0) hx hb d_X_plain_51 (by decide) ?_
        refine xp_tl (pc := 52) hC hw d_X_plain_52 (fun H locs hw => ?_)
        have hw : gH D (xw g k) A _ (tp, (nI 0), sg1, ln1, (nI (ts.length + 1)), ds) H locs := hw
        refine lv_iload_n (pc := 55) hx hb d_X_plain_55 rfl (lv_at hl 0 rfl) ?_
        refine lv_if_eq (pc := 56) (tgt := 66) hx hb d_X_plain_56 (by decide) (fun hc56 => ?_) (fun hc56 => ?_)
        · exact absurd hc56 (by decide)
        · refine lv_aload_n (pc := 59) hx hb d_X_plain_59 rfl (lv_at hl 1 rfl) ?_
          refine xg_tc (pc := 60) hC hw d_X_plain_60 ?_
          refine lv_goto (pc := 63) (tgt := 67) hx hb d_X_plain_63 (by decide) ?_
          exact hQ _ _ _ _ _ _ hw (rfl) (Or.inl ⟨hy, hc14, rfl, sg1, ln1, rfl, hwr⟩) d_X_plain_67
end
section
set_option maxHeartbeats 4000000 in
set_option maxRecDepth 100000 in
theorem c_M_put (l : Launch) (D : va_G) (g : Nat → Nat) (k : Nat → ClassId) (tp : Nat → Int32) (tm : Nat → Int32) (sz : Nat → Int32) (ct : Int32) (wd : Nat → Int32) (wl : Int32) (tb : Nat → Int32) {n : Nat} (x : Int32) (h : n + 4 ≤ 300) : gMv l y_M_put (gW y_M_put b_M_put 3 none) (gR 0) D (mT k) (mw g k) [.ref (g 0), .int x] (tp, (nI n), tm, sz, ct, wd, wl, tb) (fun u => u = (p4 (fun b => b) tp n x, nI (n + 4), tm, sz, ct, wd, wl, tb)) := by
  refine g_startv (by decide) (Nat.le_of_ble_eq_true rfl) ?_
  intro p ev s m args below meth cd A Q ls hC hQ hl hw
  have hx := hC.1.1
  have hb := hC.1.2.1
  have hl : lv_has ls 3 [(0, .ref (g 0)), (1, .int x)] := hl
  refine lv_bipush (pc := 0) (v := nI 24) hx hb d_M_put_0 (by decide) ?_
  refine lv_istore_n (pc := 2) hx hb d_M_put_2 rfl hl (by decide) rfl (fun ls hl => ?_)
  have hl : lv_has ls 3 [(2, .int (nI 24)), (0, .ref (g 0)), (1, .int x)] := hl
  refine lv_iload_n (pc := 3) hx hb d_M_put_3 rfl (lv_at hl 0 rfl) ?_
  refine lv_if_lt (pc := 4) (tgt := 36) hx hb d_M_put_4 (by decide) (fun hc4 => absurd hc4 (by decide)) (fun _ => ?_)
  refine lv_aload_n (pc := 7) hx hb d_M_put_7 rfl (lv_at hl 1 rfl) ?_
  refine mg_tp (pc := 8) hC hw d_M_put_8 ?_
  refine lv_aload_n (pc := 11) hx hb d_M_put_11 rfl (lv_at hl 1 rfl) ?_
  refine mg_tl (pc := 12) hC hw d_M_put_12 ?_
  refine lv_iload_n (pc := 15) hx hb d_M_put_15 rfl (lv_at hl 2 rfl) ?_
  refine lv_iload_n (pc := 16) hx hb d_M_put_16 rfl (lv_at hl 0 rfl) ?_
  refine lv_ishr (pc := 17) hx hb d_M_put_17 ?_
  refine lv_i2b (pc := 18) hx hb d_M_put_18 rfl ?_
  refine g_top (y := bq x 24) (rfl) ?_
  refine ms_tp (pc := 19) (i := n) (x := bq x 24) (by omega) (bq_ok x 24) hC hw d_M_put_19 (fun H locs hw => ?_)
  refine lv_aload_n (pc := 20) hx hb d_M_put_20 rfl (lv_at hl 1 rfl) ?_
  refine lv_dup (pc := 21) hx hb d_M_put_21 rfl ?_
  refine mg_tl (pc := 22) hC hw d_M_put_22 ?_
  refine lv_iconst (pc := 25) (v := nI 1) hx hb d_M_put_25 (by decide) ?_
  refine lv_iadd (pc := 26) hx hb d_M_put_26 ?_
  refine g_top (y := nI (n + 1)) (nI_add _ _) ?_
  refine mp_tl (pc := 27) hC hw d_M_put_27 (fun H locs hw => ?_)
  have hw : gH D (mw g k) A _ ((upd tp n (bq x 24)), (nI (n + 1)), tm, sz, ct, wd, wl, tb) H locs := hw
  refine lv_iinc (pc := 30) (k := 0) (v := nI 16) hx hb d_M_put_30 hl rfl (by decide) (by decide) rfl (fun ls hl => ?_)
  have hl : lv_has ls 3 [(2, .int (nI 16)), (0, .ref (g 0)), (1, .int x)] := hl
  refine lv_goto (pc := 33) (tgt := 3) hx hb d_M_put_33 (by decide) ?_
  refine lv_iload_n (pc := 3) hx hb d_M_put_3 rfl (lv_at hl 0 rfl) ?_
  refine lv_if_lt (pc := 4) (tgt := 36) hx hb d_M_put_4 (by decide) (fun hc4 => absurd hc4 (by decide)) (fun _ => ?_)
  refine lv_aload_n (pc := 7) hx hb d_M_put_7 rfl (lv_at hl 1 rfl) ?_
  refine mg_tp (pc := 8) hC hw d_M_put_8 ?_
  refine lv_aload_n (pc := 11) hx hb d_M_put_11 rfl (lv_at hl 1 rfl) ?_
  refine mg_tl (pc := 12) hC hw d_M_put_12 ?_
  refine lv_iload_n (pc := 15) hx hb d_M_put_15 rfl (lv_at hl 2 rfl) ?_
  refine lv_iload_n (pc := 16) hx hb d_M_put_16 rfl (lv_at hl 0 rfl) ?_
  refine lv_ishr (pc := 17) hx hb d_M_put_17 ?_
  refine lv_i2b (pc := 18) hx hb d_M_put_18 rfl ?_
  refine g_top (y := bq x 16) (rfl) ?_
  refine ms_tp (pc := 19) (i := n + 1) (x := bq x 16) (by omega) (bq_ok x 16) hC hw d_M_put_19 (fun H locs hw => ?_)
  refine lv_aload_n (pc := 20) hx hb d_M_put_20 rfl (lv_at hl 1 rfl) ?_
  refine lv_dup (pc := 21) hx hb d_M_put_21 rfl ?_
  refine mg_tl (pc := 22) hC hw d_M_put_22 ?_
  refine lv_iconst (pc := 25) (v := nI 1) hx hb d_M_put_25 (by decide) ?_
  refine lv_iadd (pc := 26) hx hb d_M_put_26 ?_
  refine g_top (y := nI ((n + 1) + 1)) (nI_add _ _) ?_
  refine mp_tl (pc := 27) hC hw d_M_put_27 (fun H locs hw => ?_)
  have hw : gH D (mw g k) A _ ((upd ((upd tp n (bq x 24))) (n + 1) (bq x 16)), (nI ((n + 1) + 1)), tm, sz, ct, wd, wl, tb) H locs := hw
  refine lv_iinc (pc := 30) (k := 0) (v := nI 8) hx hb d_M_put_30 hl rfl (by decide) (by decide) rfl (fun ls hl => ?_)
  have hl : lv_has ls 3 [(2, .int (nI 8)), (0, .ref (g 0)), (1, .int x)] := hl
  refine lv_goto (pc := 33) (tgt := 3) hx hb d_M_put_33 (by decide) ?_
  refine lv_iload_n (pc := 3) hx hb d_M_put_3 rfl (lv_at hl 0 rfl) ?_
  refine lv_if_lt (pc := 4) (tgt := 36) hx hb d_M_put_4 (by decide) (fun hc4 => absurd hc4 (by decide)) (fun _ => ?_)
  refine lv_aload_n (pc := 7) hx hb d_M_put_7 rfl (lv_at hl 1 rfl) ?_
  refine mg_tp (pc := 8) hC hw d_M_put_8 ?_
  refine lv_aload_n (pc := 11) hx hb d_M_put_11 rfl (lv_at hl 1 rfl) ?_
  refine mg_tl (pc := 12) hC hw d_M_put_12 ?_
  refine lv_iload_n (pc := 15) hx hb d_M_put_15 rfl (lv_at hl 2 rfl) ?_
  refine lv_iload_n (pc := 16) hx hb d_M_put_16 rfl (lv_at hl 0 rfl) ?_
  refine lv_ishr (pc := 17) hx hb d_M_put_17 ?_
  refine lv_i2b (pc := 18) hx hb d_M_put_18 rfl ?_
  refine g_top (y := bq x 8) (rfl) ?_
  refine ms_tp (pc := 19) (i := (n + 1) + 1) (x := bq x 8) (by omega) (bq_ok x 8) hC hw d_M_put_19 (fun H locs hw => ?_)
  refine lv_aload_n (pc := 20) hx hb d_M_put_20 rfl (lv_at hl 1 rfl) ?_
  refine lv_dup (pc := 21) hx hb d_M_put_21 rfl ?_
  refine mg_tl (pc := 22) hC hw d_M_put_22 ?_
  refine lv_iconst (pc := 25) (v := nI 1) hx hb d_M_put_25 (by decide) ?_
  refine lv_iadd (pc := 26) hx hb d_M_put_26 ?_
  refine g_top (y := nI (((n + 1) + 1) + 1)) (nI_add _ _) ?_
  refine mp_tl (pc := 27) hC hw d_M_put_27 (fun H locs hw => ?_)
  have hw : gH D (mw g k) A _ ((upd ((upd ((upd tp n (bq x 24))) (n + 1) (bq x 16))) ((n + 1) + 1) (bq x 8)), (nI (((n + 1) + 1) + 1)), tm, sz, ct, wd, wl, tb) H locs := hw
  refine lv_iinc (pc := 30) (k := 0) (v := nI 0) hx hb d_M_put_30 hl rfl (by decide) (by decide) rfl (fun ls hl => ?_)
  have hl : lv_has ls 3 [(2, .int (nI 0)), (0, .ref (g 0)), (1, .int x)] := hl
  refine lv_goto (pc := 33) (tgt := 3) hx hb d_M_put_33 (by decide) ?_
  refine lv_iload_n (pc := 3) hx hb d_M_put_3 rfl (lv_at hl 0 rfl) ?_
  refine lv_if_lt (pc := 4) (tgt := 36) hx hb d_M_put_4 (by decide) (fun hc4 => absurd hc4 (by decide)) (fun _ => ?_)
  refine lv_aload_n (pc := 7) hx hb d_M_put_7 rfl (lv_at hl 1 rfl) ?_
  refine mg_tp (pc := 8) hC hw d_M_put_8 ?_
  refine lv_aload_n (pc := 11) hx hb d_M_put_11 rfl (lv_at hl 1 rfl) ?_
  refine mg_tl (pc := 12) hC hw d_M_put_12 ?_
  refine lv_iload_n (pc := 15) hx hb d_M_put_15 rfl (lv_at hl 2 rfl) ?_
  refine lv_iload_n (pc := 16) hx hb d_M_put_16 rfl (lv_at hl 0 rfl) ?_
  refine lv_ishr (pc := 17) hx hb d_M_put_17 ?_
  refine lv_i2b (pc := 18) hx hb d_M_put_18 rfl ?_
  refine g_top (y := bq x 0) (rfl) ?_
  refine ms_tp (pc := 19) (i := ((n + 1) + 1) + 1) (x := bq x 0) (by omega) (bq_ok x 0) hC hw d_M_put_19 (fun H locs hw => ?_)
  refine lv_aload_n (pc := 20) hx hb d_M_put_20 rfl (lv_at hl 1 rfl) ?_
  refine lv_dup (pc := 21) hx hb d_M_put_21 rfl ?_
  refine mg_tl (pc := 22) hC hw d_M_put_22 ?_
  refine lv_iconst (pc := 25) (v := nI 1) hx hb d_M_put_25 (by decide) ?_
  refine lv_iadd (pc := 26) hx hb d_M_put_26 ?_
  refine g_top (y := nI ((((n + 1) + 1) + 1) + 1)) (nI_add _ _) ?_
  refine mp_tl (pc := 27) hC hw d_M_put_27 (fun H locs hw => ?_)
  have hw : gH D (mw g k) A _ ((upd ((upd ((upd ((upd tp n (bq x 24))) (n + 1) (bq x 16))) ((n + 1) + 1) (bq x 8))) (((n + 1) + 1) + 1) (bq x 0)), (nI ((((n + 1) + 1) + 1) + 1)), tm, sz, ct, wd, wl, tb) H locs := hw
  refine lv_iinc (pc := 30) (k := 0) (v := (-8)) hx hb d_M_put_30 hl rfl (by decide) (by decide) rfl (fun ls hl => ?_)
  have hl : lv_has ls 3 [(2, .int ((-8))), (0, .ref (g 0)), (1, .int x)] := hl
  refine lv_goto (pc := 33) (tgt := 3) hx hb d_M_put_33 (by decide) ?_
  refine lv_iload_n (pc := 3) hx hb d_M_put_3 rfl (lv_at hl 0 rfl) ?_
  refine lv_if_lt (pc := 4) (tgt := 36) hx hb d_M_put_4 (by decide) (fun _ => ?_) (fun hc4 => absurd (by decide) hc4)
  exact hQ _ _ _ _ _ hw (rfl) d_M_put_36
set_option maxHeartbeats 4000000 in
set_option maxRecDepth 100000 in
theorem c_M_feed (l : Launch) (D : va_G) (g : Nat → Nat) (k : Nat → ClassId) (tp : Nat → Int32) (tm : Nat → Int32) (sz : Nat → Int32) (ct : Int32) (wd : Nat → Int32) (wl : Int32) (tb : Nat → Int32) {n : Nat} (v1 v2 v3 v4 v5 : Int32) (h : n ≤ 300) : gMi l y_M_feed (gW y_M_feed b_M_feed 6 (some .int)) (gR 1) D (mT k) (mw g k) [.ref (g 0), .int v1, .int v2, .int v3, .int v4, .int v5] (tp, (nI n), tm, sz, ct, wd, wl, tb) (fun r u => (300 < n + 20 ∧ r = -3 ∧ u = (tp, nI n, tm, sz, ct, wd, wl, tb)) ∨ (n + 20 ≤ 300 ∧ r = nI (n + 20) ∧ u = (p20 (fun b => b) tp n v1 v2 v3 v4 v5, nI (n + 20), tm, sz, ct, wd, wl, tb))) := by
  refine g_starti (by decide) (Nat.le_of_ble_eq_true rfl) ?_
  intro p ev s m args below meth cd A Q ls hC hQ hl hw
  have hx := hC.1.1
  have hb := hC.1.2.1
  have hl : lv_has ls 6 [(0, .ref (g 0)), (1, .int v1), (2, .int v2), (3, .int v3), (4, .int v4), (5, .int v5)] := hl
  refine lv_aload_n (pc := 0) hx hb d_M_feed_0 rfl (lv_at hl 0 rfl) ?_
  refine mg_tl (pc := 1) hC hw d_M_feed_1 ?_
  refine lv_bipush (pc := 4) (v := nI 20) hx hb d_M_feed_4 (by decide) ?_
  refine lv_iadd (pc := 6) hx hb d_M_feed_6 ?_
  refine g_top (y := nI (n + 20)) (nI_add _ _) ?_
  refine lv_sipush (pc := 7) (v := nI 300) hx hb d_M_feed_7 (by decide) ?_
  refine nc_le (pc := 10) (tgt := 16) hx hb d_M_feed_10 (by decide) (by omega) (by omega) (fun hc10 => ?_) (fun hc10 => ?_)
  · refine lv_aload_n (pc := 16) hx hb d_M_feed_16 rfl (lv_at hl 0 rfl) ?_
    refine lv_iload_n (pc := 17) hx hb d_M_feed_17 rfl (lv_at hl 1 rfl) ?_
    refine g_callv (pc := 18) (as := [.int v1]) (rest := []) hC hw (c_M_put l D g k (tp) tm sz ct wd wl tb (n := n) v1 (by omega)) lm_M_put f_M_put rfl rfl rfl rfl ⟨by decide, by decide⟩ hl.1 (Nat.le_of_ble_eq_true rfl) d_M_feed_18 (fun u1 H locs hp hw => ?_)
    subst hp
    refine lv_aload_n (pc := 21) hx hb d_M_feed_21 rfl (lv_at hl 0 rfl) ?_
    refine lv_iload_n (pc := 22) hx hb d_M_feed_22 rfl (lv_at hl 2 rfl) ?_
    refine g_callv (pc := 23) (as := [.int v2]) (rest := []) hC hw (c_M_put l D g k (p4 (fun b => b) (tp) (n) v1) tm sz ct wd wl tb (n := n + 4) v2 (by omega)) lm_M_put f_M_put rfl rfl rfl rfl ⟨by decide, by decide⟩ hl.1 (Nat.le_of_ble_eq_true rfl) d_M_feed_23 (fun u1 H locs hp hw => ?_)
    subst hp
    refine lv_aload_n (pc := 26) hx hb d_M_feed_26 rfl (lv_at hl 0 rfl) ?_
    refine lv_iload_n (pc := 27) hx hb d_M_feed_27 rfl (lv_at hl 3 rfl) ?_
    refine g_callv (pc := 28) (as := [.int v3]) (rest := []) hC hw (c_M_put l D g k (p4 (fun b => b) (p4 (fun b => b) (tp) (n) v1) (n + 4) v2) tm sz ct wd wl tb (n := n + 4 + 4) v3 (by omega)) lm_M_put f_M_put rfl rfl rfl rfl ⟨by decide, by decide⟩ hl.1 (Nat.le_of_ble_eq_true rfl) d_M_feed_28 (fun u1 H locs hp hw => ?_)
    subst hp
    refine lv_aload_n (pc := 31) hx hb d_M_feed_31 rfl (lv_at hl 0 rfl) ?_
    refine lv_iload (pc := 32) hx hb d_M_feed_32 (lv_at hl 4 rfl) ?_
    refine g_callv (pc := 34) (as := [.int v4]) (rest := []) hC hw (c_M_put l D g k (p4 (fun b => b) (p4 (fun b => b) (p4 (fun b => b) (tp) (n) v1) (n + 4) v2) (n + 4 + 4) v3) tm sz ct wd wl tb (n := n + 4 + 4 + 4) v4 (by omega)) lm_M_put f_M_put rfl rfl rfl rfl ⟨by decide, by decide⟩ hl.1 (Nat.le_of_ble_eq_true rfl) d_M_feed_34 (fun u1 H locs hp hw => ?_)
    subst hp
    refine lv_aload_n (pc := 37) hx hb d_M_feed_37 rfl (lv_at hl 0 rfl) ?_
    refine lv_iload (pc := 38) hx hb d_M_feed_38 (lv_at hl 5 rfl) ?_
    refine g_callv (pc := 40) (as := [.int v5]) (rest := []) hC hw (c_M_put l D g k (p4 (fun b => b) (p4 (fun b => b) (p4 (fun b => b) (p4 (fun b => b) (tp) (n) v1) (n + 4) v2) (n + 4 + 4) v3) (n + 4 + 4 + 4) v4) tm sz ct wd wl tb (n := n + 4 + 4 + 4 + 4) v5 (by omega)) lm_M_put f_M_put rfl rfl rfl rfl ⟨by decide, by decide⟩ hl.1 (Nat.le_of_ble_eq_true rfl) d_M_feed_40 (fun u1 H locs hp hw => ?_)
    subst hp
    refine lv_aload_n (pc := 43) hx hb d_M_feed_43 rfl (lv_at hl 0 rfl) ?_
    refine mg_tl (pc := 44) hC hw d_M_feed_44 ?_
    exact hQ _ _ _ _ _ _ hw (rfl) (Or.inr ⟨hc10, rfl, rfl⟩) d_M_feed_47
  · refine lv_bipush (pc := 13) (v := (-3)) hx hb d_M_feed_13 (by decide) ?_
    exact hQ _ _ _ _ _ _ hw (rfl) (Or.inl ⟨hc10, rfl, rfl⟩) d_M_feed_15
set_option maxHeartbeats 4000000 in
set_option maxRecDepth 100000 in
theorem c_M_end (l : Launch) (D : va_G) (g : Nat → Nat) (k : Nat → ClassId) (tp : Nat → Int32) (tl : Int32) (tm sz : Nat → Int32) (ct : Int32) (wd : Nat → Int32) (wl : Int32) (tb : Nat → Int32) (x : Int32) : gMi l y_M_end (gW y_M_end b_M_end 2 (some .int)) (gR 0) D (mT k) (mw g k) [.ref (g 0), .int x] (tp, tl, tm, sz, ct, wd, wl, tb) (fun r u => ((x < 0 ∨ tl < x) ∧ r = -1 ∧ u = (tp, tl, tm, sz, ct, wd, wl, tb)) ∨ (¬ x < 0 ∧ x ≤ tl ∧ r = x ∧ u = (tp, x, tm, sz, ct, wd, wl, tb))) := by
  refine g_starti (by decide) (Nat.le_of_ble_eq_true rfl) ?_
  intro p ev s m args below meth cd A Q ls hC hQ hl hw
  have hx := hC.1.1
  have hb := hC.1.2.1
  have hl : lv_has ls 2 [(0, .ref (g 0)), (1, .int x)] := hl
  refine lv_iload_n (pc := 0) hx hb d_M_end_0 rfl (lv_at hl 1 rfl) ?_
  refine lv_if_lt (pc := 1) (tgt := 12) hx hb d_M_end_1 (by decide) (fun hc1 => ?_) (fun hc1 => ?_)
  · refine lv_iconst (pc := 12) (v := (-1)) hx hb d_M_end_12 (by decide) ?_
    exact hQ _ _ _ _ _ _ hw (rfl) (Or.inl ⟨Or.inl hc1, rfl, rfl⟩) d_M_end_13
  · refine lv_iload_n (pc := 4) hx hb d_M_end_4 rfl (lv_at hl 1 rfl) ?_
    refine lv_aload_n (pc := 5) hx hb d_M_end_5 rfl (lv_at hl 0 rfl) ?_
    refine mg_tl (pc := 6) hC hw d_M_end_6 ?_
    refine lv_icmp_le (pc := 9) (tgt := 14) hx hb d_M_end_9 (by decide) (fun hc9 => ?_) (fun hc9 => ?_)
    · refine lv_aload_n (pc := 14) hx hb d_M_end_14 rfl (lv_at hl 0 rfl) ?_
      refine lv_iload_n (pc := 15) hx hb d_M_end_15 rfl (lv_at hl 1 rfl) ?_
      refine mp_tl (pc := 16) hC hw d_M_end_16 (fun H locs hw => ?_)
      have hw : gH D (mw g k) A _ (tp, x, tm, sz, ct, wd, wl, tb) H locs := hw
      refine lv_iload_n (pc := 19) hx hb d_M_end_19 rfl (lv_at hl 1 rfl) ?_
      exact hQ _ _ _ _ _ _ hw (rfl) (Or.inr ⟨hc1, hc9, rfl, rfl⟩) d_M_end_20
    · refine lv_iconst (pc := 12) (v := (-1)) hx hb d_M_end_12 (by decide) ?_
      exact hQ _ _ _ _ _ _ hw (rfl) (Or.inl ⟨Or.inr (Int32.not_le.mp hc9), rfl, rfl⟩) d_M_end_13
theorem lt_y {b : Int32} (h : (48 ≤ b ∧ b ≤ 57) ∨ (65 ≤ b ∧ b ≤ 90) ∨ (97 ≤ b ∧ b ≤ 122)) : (1 : Int32) = bI (ltr b) := by
  unfold bI ltr
  rw [if_pos (decide_eq_true h)]
theorem lt_n {b : Int32} (h : ¬ ((48 ≤ b ∧ b ≤ 57) ∨ (65 ≤ b ∧ b ≤ 90) ∨ (97 ≤ b ∧ b ≤ 122))) : (0 : Int32) = bI (ltr b) := by
  unfold bI ltr
  rw [if_neg (fun q => h (of_decide_eq_true q))]
set_option maxHeartbeats 4000000 in
set_option maxRecDepth 100000 in
theorem c_M_letter (l : Launch) (D : va_G) (b : Int32) : gMs l y_M_letter (gW y_M_letter b_M_letter 1 (some .boolean)) (gR 0) D [.int b] (bI (ltr b)) := by
  refine g_starti (by decide) (Nat.le_of_ble_eq_true rfl) ?_
  intro p ev s m args below meth cd A Q ls hC hQ hl hw
  have hx := hC.1.1
  have hb := hC.1.2.1
  have hl : lv_has ls 1 [(0, .int b)] := hl
  refine lv_iload_n (pc := 0) hx hb d_M_letter_0 rfl (lv_at hl 0 rfl) ?_
  refine lv_bipush (pc := 1) (v := 48) hx hb d_M_letter_1 (by decide) ?_
  refine lv_icmp_lt (pc := 3) (tgt := 12) hx hb d_M_letter_3 (by decide) (fun hc3 => ?_) (fun hc3 => ?_)
  · refine lv_iload_n (pc := 12) hx hb d_M_letter_12 rfl (lv_at hl 0 rfl) ?_
    refine lv_bipush (pc := 13) (v := 65) hx hb d_M_letter_13 (by decide) ?_
    refine lv_icmp_lt (pc := 15) (tgt := 24) hx hb d_M_letter_15 (by decide) (fun hc15 => ?_) (fun hc15 => ?_)
    · refine lv_iload_n (pc := 24) hx hb d_M_letter_24 rfl (lv_at hl 0 rfl) ?_
      refine lv_bipush (pc := 25) (v := 97) hx hb d_M_letter_25 (by decide) ?_
      refine lv_icmp_lt (pc := 27) (tgt := 40) hx hb d_M_letter_27 (by decide) (fun hc27 => ?_) (fun hc27 => ?_)
      · refine lv_iconst (pc := 40) (v := 0) hx hb d_M_letter_40 (by decide) ?_
        exact hQ _ _ _ _ _ _ hw (rfl) (lt_n (fun q => q.elim (fun z => nl hc3 z.1) (fun q => q.elim (fun z => nl hc15 z.1) (fun z => nl hc27 z.1)))) d_M_letter_41
      · refine lv_iload_n (pc := 30) hx hb d_M_letter_30 rfl (lv_at hl 0 rfl) ?_
        refine lv_bipush (pc := 31) (v := 122) hx hb d_M_letter_31 (by decide) ?_
        refine lv_icmp_gt (pc := 33) (tgt := 40) hx hb d_M_letter_33 (by decide) (fun hc33 => ?_) (fun hc33 => ?_)
        · refine lv_iconst (pc := 40) (v := 0) hx hb d_M_letter_40 (by decide) ?_
          exact hQ _ _ _ _ _ _ hw (rfl) (lt_n (fun q => q.elim (fun z => nl hc3 z.1) (fun q => q.elim (fun z => nl hc15 z.1) (fun z => nl hc33 z.2)))) d_M_letter_41
        · refine lv_iconst (pc := 36) (v := 1) hx hb d_M_letter_36 (by decide) ?_
          refine lv_goto (pc := 37) (tgt := 41) hx hb d_M_letter_37 (by decide) ?_
          exact hQ _ _ _ _ _ _ hw (rfl) (lt_y (Or.inr (Or.inr ⟨Int32.not_lt.mp hc27, Int32.not_lt.mp hc33⟩))) d_M_letter_41
    · refine lv_iload_n (pc := 18) hx hb d_M_letter_18 rfl (lv_at hl 0 rfl) ?_
      refine lv_bipush (pc := 19) (v := 90) hx hb d_M_letter_19 (by decide) ?_
      refine lv_icmp_le (pc := 21) (tgt := 36) hx hb d_M_letter_21 (by decide) (fun hc21 => ?_) (fun hc21 => ?_)
      · refine lv_iconst (pc := 36) (v := 1) hx hb d_M_letter_36 (by decide) ?_
        refine lv_goto (pc := 37) (tgt := 41) hx hb d_M_letter_37 (by decide) ?_
        exact hQ _ _ _ _ _ _ hw (rfl) (lt_y (Or.inr (Or.inl ⟨Int32.not_lt.mp hc15, hc21⟩))) d_M_letter_41
      · refine lv_iload_n (pc := 24) hx hb d_M_letter_24 rfl (lv_at hl 0 rfl) ?_
        refine lv_bipush (pc := 25) (v := 97) hx hb d_M_letter_25 (by decide) ?_
        refine lv_icmp_lt (pc := 27) (tgt := 40) hx hb d_M_letter_27 (by decide) (fun hc27 => ?_) (fun hc27 => ?_)
        · refine lv_iconst (pc := 40) (v := 0) hx hb d_M_letter_40 (by decide) ?_
          exact hQ _ _ _ _ _ _ hw (rfl) (lt_n (fun q => q.elim (fun z => nl hc3 z.1) (fun q => q.elim (fun z => hc21 z.2) (fun z => nl hc27 z.1)))) d_M_letter_41
        · refine lv_iload_n (pc := 30) hx hb d_M_letter_30 rfl (lv_at hl 0 rfl) ?_
          refine lv_bipush (pc := 31) (v := 122) hx hb d_M_letter_31 (by decide) ?_
          refine lv_icmp_gt (pc := 33) (tgt := 40) hx hb d_M_letter_33 (by decide) (fun hc33 => ?_) (fun hc33 => ?_)
          · refine lv_iconst (pc := 40) (v := 0) hx hb d_M_letter_40 (by decide) ?_
            exact hQ _ _ _ _ _ _ hw (rfl) (lt_n (fun q => q.elim (fun z => nl hc3 z.1) (fun q => q.elim (fun z => hc21 z.2) (fun z => nl hc33 z.2)))) d_M_letter_41
          · refine lv_iconst (pc := 36) (v := 1) hx hb d_M_letter_36 (by decide) ?_
            refine lv_goto (pc := 37) (tgt := 41) hx hb d_M_letter_37 (by decide) ?_
            exact hQ _ _ _ _ _ _ hw (rfl) (lt_y (Or.inr (Or.inr ⟨Int32.not_lt.mp hc27, Int32.not_lt.mp hc33⟩))) d_M_letter_41
  · refine lv_iload_n (pc := 6) hx hb d_M_letter_6 rfl (lv_at hl 0 rfl) ?_
    refine lv_bipush (pc := 7) (v := 57) hx hb d_M_letter_7 (by decide) ?_
    refine lv_icmp_le (pc := 9) (tgt := 36) hx hb d_M_letter_9 (by decide) (fun hc9 => ?_) (fun hc9 => ?_)
    · refine lv_iconst (pc := 36) (v := 1) hx hb d_M_letter_36 (by decide) ?_
      refine lv_goto (pc := 37) (tgt := 41) hx hb d_M_letter_37 (by decide) ?_
      exact hQ _ _ _ _ _ _ hw (rfl) (lt_y (Or.inl ⟨Int32.not_lt.mp hc3, hc9⟩)) d_M_letter_41
    · refine lv_iload_n (pc := 12) hx hb d_M_letter_12 rfl (lv_at hl 0 rfl) ?_
      refine lv_bipush (pc := 13) (v := 65) hx hb d_M_letter_13 (by decide) ?_
      refine lv_icmp_lt (pc := 15) (tgt := 24) hx hb d_M_letter_15 (by decide) (fun hc15 => ?_) (fun hc15 => ?_)
      · refine lv_iload_n (pc := 24) hx hb d_M_letter_24 rfl (lv_at hl 0 rfl) ?_
        refine lv_bipush (pc := 25) (v := 97) hx hb d_M_letter_25 (by decide) ?_
        refine lv_icmp_lt (pc := 27) (tgt := 40) hx hb d_M_letter_27 (by decide) (fun hc27 => ?_) (fun hc27 => ?_)
        · refine lv_iconst (pc := 40) (v := 0) hx hb d_M_letter_40 (by decide) ?_
          exact hQ _ _ _ _ _ _ hw (rfl) (lt_n (fun q => q.elim (fun z => hc9 z.2) (fun q => q.elim (fun z => nl hc15 z.1) (fun z => nl hc27 z.1)))) d_M_letter_41
        · refine lv_iload_n (pc := 30) hx hb d_M_letter_30 rfl (lv_at hl 0 rfl) ?_
          refine lv_bipush (pc := 31) (v := 122) hx hb d_M_letter_31 (by decide) ?_
          refine lv_icmp_gt (pc := 33) (tgt := 40) hx hb d_M_letter_33 (by decide) (fun hc33 => ?_) (fun hc33 => ?_)
          · refine lv_iconst (pc := 40) (v := 0) hx hb d_M_letter_40 (by decide) ?_
            exact hQ _ _ _ _ _ _ hw (rfl) (lt_n (fun q => q.elim (fun z => hc9 z.2) (fun q => q.elim (fun z => nl hc15 z.1) (fun z => nl hc33 z.2)))) d_M_letter_41
          · refine lv_iconst (pc := 36) (v := 1) hx hb d_M_letter_36 (by decide) ?_
            refine lv_goto (pc := 37) (tgt := 41) hx hb d_M_letter_37 (by decide) ?_
            exact hQ _ _ _ _ _ _ hw (rfl) (lt_y (Or.inr (Or.inr ⟨Int32.not_lt.mp hc27, Int32.not_lt.mp hc33⟩))) d_M_letter_41
      · refine lv_iload_n (pc := 18) hx hb d_M_letter_18 rfl (lv_at hl 0 rfl) ?_
        refine lv_bipush (pc := 19) (v := 90) hx hb d_M_letter_19 (by decide) ?_
        refine lv_icmp_le (pc := 21) (tgt := 36) hx hb d_M_letter_21 (by decide) (fun hc21 => ?_) (fun hc21 => ?_)
        · refine lv_iconst (pc := 36) (v := 1) hx hb d_M_letter_36 (by decide) ?_
          refine lv_goto (pc := 37) (tgt := 41) hx hb d_M_letter_37 (by decide) ?_
          exact hQ _ _ _ _ _ _ hw (rfl) (lt_y (Or.inr (Or.inl ⟨Int32.not_lt.mp hc15, hc21⟩))) d_M_letter_41
        · refine lv_iload_n (pc := 24) hx hb d_M_letter_24 rfl (lv_at hl 0 rfl) ?_
          refine lv_bipush (pc := 25) (v := 97) hx hb d_M_letter_25 (by decide) ?_
          refine lv_icmp_lt (pc := 27) (tgt := 40) hx hb d_M_letter_27 (by decide) (fun hc27 => ?_) (fun hc27 => ?_)
          · refine lv_iconst (pc := 40) (v := 0) hx hb d_M_letter_40 (by decide) ?_
            exact hQ _ _ _ _ _ _ hw (rfl) (lt_n (fun q => q.elim (fun z => hc9 z.2) (fun q => q.elim (fun z => hc21 z.2) (fun z => nl hc27 z.1)))) d_M_letter_41
          · refine lv_iload_n (pc := 30) hx hb d_M_letter_30 rfl (lv_at hl 0 rfl) ?_
            refine lv_bipush (pc := 31) (v := 122) hx hb d_M_letter_31 (by decide) ?_
            refine lv_icmp_gt (pc := 33) (tgt := 40) hx hb d_M_letter_33 (by decide) (fun hc33 => ?_) (fun hc33 => ?_)
            · refine lv_iconst (pc := 40) (v := 0) hx hb d_M_letter_40 (by decide) ?_
              exact hQ _ _ _ _ _ _ hw (rfl) (lt_n (fun q => q.elim (fun z => hc9 z.2) (fun q => q.elim (fun z => hc21 z.2) (fun z => nl hc33 z.2)))) d_M_letter_41
            · refine lv_iconst (pc := 36) (v := 1) hx hb d_M_letter_36 (by decide) ?_
              refine lv_goto (pc := 37) (tgt := 41) hx hb d_M_letter_37 (by decide) ?_
              exact hQ _ _ _ _ _ _ hw (rfl) (lt_y (Or.inr (Or.inr ⟨Int32.not_lt.mp hc27, Int32.not_lt.mp hc33⟩))) d_M_letter_41
set_option maxHeartbeats 4000000 in
set_option maxRecDepth 100000 in
theorem c_M_is_n (l : Launch) (D : va_G) (g : Nat → Nat) (k : Nat → ClassId) (tp : Nat → Int32) (tl : Int32) (tm sz : Nat → Int32) (ct : Int32) (wd : Nat → Int32) (wl : Int32) (tb : Nat → Int32) {x : Int32} (h : x < 0 ∨ ct ≤ x) : gMi l y_M_is (gW y_M_is b_M_is 2 (some .boolean)) (gR 0) D (mT k) (mw g k) [.ref (g 0), .int x] (tp, tl, tm, sz, ct, wd, wl, tb) (fun r u => r = 0 ∧ u = (tp, tl, tm, sz, ct, wd, wl, tb)) := by
  refine g_starti (by decide) (Nat.le_of_ble_eq_true rfl) ?_
  intro p ev s m args below meth cd A Q ls hC hQ hl hw
  have hx := hC.1.1
  have hb := hC.1.2.1
  have hl : lv_has ls 2 [(0, .ref (g 0)), (1, .int x)] := hl
  refine lv_iload_n (pc := 0) hx hb d_M_is_0 rfl (lv_at hl 1 rfl) ?_
  refine lv_if_lt (pc := 1) (tgt := 16) hx hb d_M_is_1 (by decide) (fun hc1 => ?_) (fun hc1 => ?_)
  · refine lv_iconst (pc := 16) (v := 0) hx hb d_M_is_16 (by decide) ?_
    exact hQ _ _ _ _ _ _ hw (rfl) (⟨rfl, rfl⟩) d_M_is_17
  · refine lv_iload_n (pc := 4) hx hb d_M_is_4 rfl (lv_at hl 1 rfl) ?_
    refine lv_aload_n (pc := 5) hx hb d_M_is_5 rfl (lv_at hl 0 rfl) ?_
    refine mg_ct (pc := 6) hC hw d_M_is_6 ?_
    refine lv_icmp_ge (pc := 9) (tgt := 16) hx hb d_M_is_9 (by decide) (fun hc9 => ?_) (fun hc9 => ?_)
    · refine lv_iconst (pc := 16) (v := 0) hx hb d_M_is_16 (by decide) ?_
      exact hQ _ _ _ _ _ _ hw (rfl) (⟨rfl, rfl⟩) d_M_is_17
    · exact (h.elim hc1 hc9).elim
set_option maxHeartbeats 4000000 in
set_option maxRecDepth 100000 in
theorem c_M_is_y (l : Launch) (D : va_G) (g : Nat → Nat) (k : Nat → ClassId) (tp : Nat → Int32) (tl : Int32) (tm : Nat → Int32) (sz : Nat → Int32) (wd : Nat → Int32) (wl : Int32) (tb : Nat → Int32) {j c : Nat} (h : j < c) (hc : c ≤ 150) : gMi l y_M_is (gW y_M_is b_M_is 2 (some .boolean)) (gR 0) D (mT k) (mw g k) [.ref (g 0), .int (nI j)] (tp, tl, tm, sz, (nI c), wd, wl, tb) (fun r u => r = 1 ∧ u = (tp, tl, tm, sz, (nI c), wd, wl, tb)) := by
  refine g_starti (by decide) (Nat.le_of_ble_eq_true rfl) ?_
  intro p ev s m args below meth cd A Q ls hC hQ hl hw
  have hx := hC.1.1
  have hb := hC.1.2.1
  have hl : lv_has ls 2 [(0, .ref (g 0)), (1, .int (nI j))] := hl
  refine lv_iload_n (pc := 0) hx hb d_M_is_0 rfl (lv_at hl 1 rfl) ?_
  refine lv_if_lt (pc := 1) (tgt := 16) hx hb d_M_is_1 (by decide) (fun hc1 => ?_) (fun hc1 => ?_)
  · exact absurd hc1 (nI_pos (by omega))
  · refine lv_iload_n (pc := 4) hx hb d_M_is_4 rfl (lv_at hl 1 rfl) ?_
    refine lv_aload_n (pc := 5) hx hb d_M_is_5 rfl (lv_at hl 0 rfl) ?_
    refine mg_ct (pc := 6) hC hw d_M_is_6 ?_
    refine nc_ge (pc := 9) (tgt := 16) hx hb d_M_is_9 (by decide) (by omega) (by omega) (fun hc9 => ?_) (fun hc9 => ?_)
    · omega
    · refine lv_iconst (pc := 12) (v := nI 1) hx hb d_M_is_12 (by decide) ?_
      refine lv_goto (pc := 13) (tgt := 17) hx hb d_M_is_13 (by decide) ?_
      exact hQ _ _ _ _ _ _ hw (rfl) (⟨rfl, rfl⟩) d_M_is_17
end
section
set_option maxHeartbeats 4000000 in
set_option maxRecDepth 100000 in
theorem c_M_run (l : Launch) (D : va_G) (g : Nat → Nat) (k : Nat → ClassId) (tp : Nat → Int32) (tm : Nat → Int32) (sz : Nat → Int32) (ct : Int32) (wd : Nat → Int32) (wl : Int32) (tb : Nat → Int32) {n a : Nat} (h : n ≤ 300) (ha : a ≤ n) (hby : ∀ i, i < n → by_ok (tp i)) : gMi l y_M_run (gW y_M_run b_M_run 3 (some .int)) (gR 1) D (mT k) (mw g k) [.ref (g 0), .int (nI a)] (tp, (nI n), tm, sz, ct, wd, wl, tb) (fun r u => ∃ (b : Nat) (wd1 : Nat → Int32), a ≤ b ∧ b ≤ n ∧ (∀ i, a ≤ i → i < b → ltr (tp i) = true) ∧ (b = n ∨ ¬ ltr (tp b) = true) ∧ r = nI b ∧ u = (tp, nI n, tm, sz, ct, wd1, nI (b - a), tb) ∧ ∀ i, i < b - a → wd1 i = sm (tp (a + i))) := by
  refine g_starti (by decide) (Nat.le_of_ble_eq_true rfl) ?_
  intro p ev s m args below meth cd A Q ls hC hQ hl hw
  have hx := hC.1.1
  have hb := hC.1.2.1
  have hl : lv_has ls 3 [(0, .ref (g 0)), (1, .int (nI a))] := hl
  refine lv_iload_n (pc := 0) hx hb d_M_run_0 rfl (lv_at hl 1 rfl) ?_
  refine lv_istore_n (pc := 1) hx hb d_M_run_1 rfl hl (by decide) rfl (fun ls hl => ?_)
  have hl : lv_has ls 3 [(2, .int (nI a)), (0, .ref (g 0)), (1, .int (nI a))] := hl
  refine lv_aload_n (pc := 2) hx hb d_M_run_2 rfl (lv_at hl 1 rfl) ?_
  refine lv_iconst (pc := 3) (v := nI 0) hx hb d_M_run_3 (by decide) ?_
  refine mp_wl (pc := 4) hC hw d_M_run_4 (fun H locs hw => ?_)
  have hw : gH D (mw g k) A _ (tp, (nI n), tm, sz, ct, wd, (nI 0), tb) H locs := hw
  have lp : ∀ (fu : Nat) (b : Nat) (wd1 : Nat → Int32) (ls : Array Slot) (H : Heap) (locs : List Loc), n - b < fu → lv_has ls 3 [(0, .ref (g 0)), (1, .int (nI a)), (2, .int (nI b))] → gH D (mw g k) A s.heap (tp, (nI n), tm, sz, ct, wd1, (nI (b - a)), tb) H locs → (a ≤ b) → (b ≤ n) → (∀ i, a ≤ i → i < b → ltr (tp i) = true) → (∀ i, i < b - a → wd1 i = sm (tp (a + i))) → W p l ev (gR 1) s m args below meth cd H locs 0 0 Q (F0 m 7 ls []) := by
    intro fu
    induction fu with
    | zero => intro b wd1 ls H locs hn hl hw h1 h2 h3 h4; exact absurd hn (Nat.not_lt_zero _)
    | succ fu ih =>
      intro b wd1 ls H locs hn hl hw h1 h2 h3 h4
      refine lv_iload_n (pc := 7) hx hb d_M_run_7 rfl (lv_at hl 2 rfl) ?_
      refine lv_aload_n (pc := 8) hx hb d_M_run_8 rfl (lv_at hl 0 rfl) ?_
      refine mg_tl (pc := 9) hC hw d_M_run_9 ?_
      refine nc_ge (pc := 12) (tgt := 93) hx hb d_M_run_12 (by decide) (by omega) (by omega) (fun hc12 => ?_) (fun hc12 => ?_)
      · refine lv_iload_n (pc := 93) hx hb d_M_run_93 rfl (lv_at hl 2 rfl) ?_
        exact hQ _ _ _ _ _ _ hw (rfl) (⟨b, wd1, h1, h2, h3, Or.inl (by omega), rfl, rfl, h4⟩) d_M_run_94
      · refine lv_aload_n (pc := 15) hx hb d_M_run_15 rfl (lv_at hl 0 rfl) ?_
        refine mg_tp (pc := 16) hC hw d_M_run_16 ?_
        refine lv_iload_n (pc := 19) hx hb d_M_run_19 rfl (lv_at hl 2 rfl) ?_
        refine ml_tp (pc := 20) (i := b) (by omega) hC hw d_M_run_20 ?_
        refine g_calls (pc := 21) (as := [.int (tp b)]) (rest := []) hC hw (c_M_letter l D (tp b)) lm_M_letter f_M_letter rfl rfl ⟨by decide, by decide⟩ hl.1 (Nat.le_of_ble_eq_true rfl) d_M_run_21 (fun H locs hw => ?_)
        refine lv_if_eq (pc := 24) (tgt := 93) hx hb d_M_run_24 (by decide) (fun hc24 => ?_) (fun hc24 => ?_)
        · refine lv_iload_n (pc := 93) hx hb d_M_run_93 rfl (lv_at hl 2 rfl) ?_
          exact hQ _ _ _ _ _ _ hw (rfl) (⟨b, wd1, h1, h2, h3, Or.inr (by rw [bI_0 hc24]; decide), rfl, rfl, h4⟩) d_M_run_94
        · have hl1 : ltr (tp b) = true := bI_1 hc24
          have hb2 : by_ok (tp b) := hby b (by omega)
          refine lv_aload_n (pc := 27) hx hb d_M_run_27 rfl (lv_at hl 0 rfl) ?_
          refine mg_wd (pc := 28) hC hw d_M_run_28 ?_
          refine lv_aload_n (pc := 31) hx hb d_M_run_31 rfl (lv_at hl 0 rfl) ?_
          refine mg_wl (pc := 32) hC hw d_M_run_32 ?_
          refine lv_aload_n (pc := 35) hx hb d_M_run_35 rfl (lv_at hl 0 rfl) ?_
          refine mg_tp (pc := 36) hC hw d_M_run_36 ?_
          refine lv_iload_n (pc := 39) hx hb d_M_run_39 rfl (lv_at hl 2 rfl) ?_
          refine ml_tp (pc := 40) (i := b) (by omega) hC hw d_M_run_40 ?_
          refine lv_bipush (pc := 41) (v := 65) hx hb d_M_run_41 (by decide) ?_
          refine lv_icmp_lt (pc := 43) (tgt := 69) hx hb d_M_run_43 (by decide) (fun hc43 => ?_) (fun hc43 => ?_)
          · refine lv_aload_n (pc := 69) hx hb d_M_run_69 rfl (lv_at hl 0 rfl) ?_
            refine mg_tp (pc := 70) hC hw d_M_run_70 ?_
            refine lv_iload_n (pc := 73) hx hb d_M_run_73 rfl (lv_at hl 2 rfl) ?_
            refine ml_tp (pc := 74) (i := b) (by omega) hC hw d_M_run_74 ?_
            refine lv_i2b (pc := 75) hx hb d_M_run_75 rfl ?_
            refine g_top (y := sm (tp b)) (Eq.trans hb2 (sm_no (fun q => nl hc43 q.1)).symm) ?_
            refine ms_wd (pc := 76) (i := b - a) (x := sm (tp b)) (by omega) (by_sm hb2) hC hw d_M_run_76 (fun H locs hw => ?_)
            refine lv_aload_n (pc := 77) hx hb d_M_run_77 rfl (lv_at hl 0 rfl) ?_
            refine lv_dup (pc := 78) hx hb d_M_run_78 rfl ?_
            refine mg_wl (pc := 79) hC hw d_M_run_79 ?_
            refine lv_iconst (pc := 82) (v := nI 1) hx hb d_M_run_82 (by decide) ?_
            refine lv_iadd (pc := 83) hx hb d_M_run_83 ?_
            refine g_top (y := nI (b + 1 - a)) ((nI_add _ _).trans (congrArg nI (by omega))) ?_
            refine mp_wl (pc := 84) hC hw d_M_run_84 (fun H locs hw => ?_)
            have hw : gH D (mw g k) A _ (tp, (nI n), tm, sz, ct, (upd wd1 (b - a) (sm (tp b))), (nI (b + 1 - a)), tb) H locs := hw
            refine lv_iinc (pc := 87) (k := 2) (v := nI (b + 1)) hx hb d_M_run_87 hl rfl (nI_i1 b) (by decide) rfl (fun ls hl => ?_)
            have hl : lv_has ls 3 [(2, .int (nI (b + 1))), (0, .ref (g 0)), (1, .int (nI a))] := hl
            refine lv_goto (pc := 90) (tgt := 7) hx hb d_M_run_90 (by decide) ?_
            refine ih (b + 1) _ _ _ _ (by omega) (lv_sub hl [1, 2, 0] rfl) hw (by omega) (by omega) (fun i q1 q2 => ?_) (fun i q => ?_)
            · by_cases e : i = b
              · rw [e]; exact hl1
              · exact h3 i q1 (by omega)
            · by_cases e : i = b - a
              · rw [e, pk_us, show a + (b - a) = b by omega]
              · rw [pk_un e]; exact h4 i (by omega)
          · refine lv_aload_n (pc := 46) hx hb d_M_run_46 rfl (lv_at hl 0 rfl) ?_
            refine mg_tp (pc := 47) hC hw d_M_run_47 ?_
            refine lv_iload_n (pc := 50) hx hb d_M_run_50 rfl (lv_at hl 2 rfl) ?_
            refine ml_tp (pc := 51) (i := b) (by omega) hC hw d_M_run_51 ?_
            refine lv_bipush (pc := 52) (v := 90) hx hb d_M_run_52 (by decide) ?_
            refine lv_icmp_gt (pc := 54) (tgt := 69) hx hb d_M_run_54 (by decide) (fun hc54 => ?_) (fun hc54 => ?_)
            · refine lv_aload_n (pc := 69) hx hb d_M_run_69 rfl (lv_at hl 0 rfl) ?_
              refine mg_tp (pc := 70) hC hw d_M_run_70 ?_
              refine lv_iload_n (pc := 73) hx hb d_M_run_73 rfl (lv_at hl 2 rfl) ?_
              refine ml_tp (pc := 74) (i := b) (by omega) hC hw d_M_run_74 ?_
              refine lv_i2b (pc := 75) hx hb d_M_run_75 rfl ?_
              refine g_top (y := sm (tp b)) (Eq.trans hb2 (sm_no (fun q => nl hc54 q.2)).symm) ?_
              refine ms_wd (pc := 76) (i := b - a) (x := sm (tp b)) (by omega) (by_sm hb2) hC hw d_M_run_76 (fun H locs hw => ?_)
              refine lv_aload_n (pc := 77) hx hb d_M_run_77 rfl (lv_at hl 0 rfl) ?_
              refine lv_dup (pc := 78) hx hb d_M_run_78 rfl ?_
              refine mg_wl (pc := 79) hC hw d_M_run_79 ?_
              refine lv_iconst (pc := 82) (v := nI 1) hx hb d_M_run_82 (by decide) ?_
              refine lv_iadd (pc := 83) hx hb d_M_run_83 ?_
              refine g_top (y := nI (b + 1 - a)) ((nI_add _ _).trans (congrArg nI (by omega))) ?_
              refine mp_wl (pc := 84) hC hw d_M_run_84 (fun H locs hw => ?_)
              have hw : gH D (mw g k) A _ (tp, (nI n), tm, sz, ct, (upd wd1 (b - a) (sm (tp b))), (nI (b + 1 - a)), tb) H locs := hw
              refine lv_iinc (pc := 87) (k := 2) (v := nI (b + 1)) hx hb d_M_run_87 hl rfl (nI_i1 b) (by decide) rfl (fun ls hl => ?_)
              have hl : lv_has ls 3 [(2, .int (nI (b + 1))), (0, .ref (g 0)), (1, .int (nI a))] := hl
              refine lv_goto (pc := 90) (tgt := 7) hx hb d_M_run_90 (by decide) ?_
              refine ih (b + 1) _ _ _ _ (by omega) (lv_sub hl [1, 2, 0] rfl) hw (by omega) (by omega) (fun i q1 q2 => ?_) (fun i q => ?_)
              · by_cases e : i = b
                · rw [e]; exact hl1
                · exact h3 i q1 (by omega)
              · by_cases e : i = b - a
                · rw [e, pk_us, show a + (b - a) = b by omega]
                · rw [pk_un e]; exact h4 i (by omega)
            · refine lv_aload_n (pc := 57) hx hb d_M_run_57 rfl (lv_at hl 0 rfl) ?_
              refine mg_tp (pc := 58) hC hw d_M_run_58 ?_
              refine lv_iload_n (pc := 61) hx hb d_M_run_61 rfl (lv_at hl 2 rfl) ?_
              refine ml_tp (pc := 62) (i := b) (by omega) hC hw d_M_run_62 ?_
              refine lv_bipush (pc := 63) (v := 32) hx hb d_M_run_63 (by decide) ?_
              refine lv_iadd (pc := 65) hx hb d_M_run_65 ?_
              refine lv_goto (pc := 66) (tgt := 75) hx hb d_M_run_66 (by decide) ?_
              refine lv_i2b (pc := 75) hx hb d_M_run_75 rfl ?_
              refine g_top (y := sm (tp b)) (sm_up2 hb2 (Int32.not_lt.mp hc43) (Int32.not_lt.mp hc54)) ?_
              refine ms_wd (pc := 76) (i := b - a) (x := sm (tp b)) (by omega) (by_sm hb2) hC hw d_M_run_76 (fun H locs hw => ?_)
              refine lv_aload_n (pc := 77) hx hb d_M_run_77 rfl (lv_at hl 0 rfl) ?_
              refine lv_dup (pc := 78) hx hb d_M_run_78 rfl ?_
              refine mg_wl (pc := 79) hC hw d_M_run_79 ?_
              refine lv_iconst (pc := 82) (v := nI 1) hx hb d_M_run_82 (by decide) ?_
              refine lv_iadd (pc := 83) hx hb d_M_run_83 ?_
              refine g_top (y := nI (b + 1 - a)) ((nI_add _ _).trans (congrArg nI (by omega))) ?_
              refine mp_wl (pc := 84) hC hw d_M_run_84 (fun H locs hw => ?_)
              have hw : gH D (mw g k) A _ (tp, (nI n), tm, sz, ct, (upd wd1 (b - a) (sm (tp b))), (nI (b + 1 - a)), tb) H locs := hw
              refine lv_iinc (pc := 87) (k := 2) (v := nI (b + 1)) hx hb d_M_run_87 hl rfl (nI_i1 b) (by decide) rfl (fun ls hl => ?_)
              have hl : lv_has ls 3 [(2, .int (nI (b + 1))), (0, .ref (g 0)), (1, .int (nI a))] := hl
              refine lv_goto (pc := 90) (tgt := 7) hx hb d_M_run_90 (by decide) ?_
              refine ih (b + 1) _ _ _ _ (by omega) (lv_sub hl [1, 2, 0] rfl) hw (by omega) (by omega) (fun i q1 q2 => ?_) (fun i q => ?_)
              · by_cases e : i = b
                · rw [e]; exact hl1
                · exact h3 i q1 (by omega)
              · by_cases e : i = b - a
                · rw [e, pk_us, show a + (b - a) = b by omega]
                · rw [pk_un e]; exact h4 i (by omega)
  exact lp (n + 1) a wd _ _ _ (by omega) (lv_sub hl [1, 2, 0] rfl) (by rw [Nat.sub_self]; exact hw) (Nat.le_refl _) ha (fun i q1 q2 => absurd q1 (by omega)) (fun i q => absurd q (by omega))
set_option maxHeartbeats 4000000 in
set_option maxRecDepth 100000 in
theorem c_M_last (l : Launch) (D : va_G) (g : Nat → Nat) (k : Nat → ClassId) (tp : Nat → Int32) (tl : Int32) (tm : Nat → Int32) (sz : Nat → Int32) (ct : Int32) (wd : Nat → Int32) (tb : Nat → Int32) {n q : Nat} (h : n ≤ 300) (hq : q ≤ n) (hq0 : 0 < q) : gMi l y_M_last (gW y_M_last b_M_last 2 (some .int)) (gR 0) D (mT k) (mw g k) [.ref (g 0), .int (nI q)] (tp, tl, tm, sz, ct, wd, (nI n), tb) (fun r u => r = wd (n - q) ∧ u = (tp, tl, tm, sz, ct, wd, nI n, tb)) := by
  refine g_starti (by decide) (Nat.le_of_ble_eq_true rfl) ?_
  intro p ev s m args below meth cd A Q ls hC hQ hl hw
  have hx := hC.1.1
  have hb := hC.1.2.1
  have hl : lv_has ls 2 [(0, .ref (g 0)), (1, .int (nI q))] := hl
  refine lv_aload_n (pc := 0) hx hb d_M_last_0 rfl (lv_at hl 0 rfl) ?_
  refine mg_wl (pc := 1) hC hw d_M_last_1 ?_
  refine lv_iload_n (pc := 4) hx hb d_M_last_4 rfl (lv_at hl 1 rfl) ?_
  refine nc_lt (pc := 5) (tgt := 22) hx hb d_M_last_5 (by decide) (by omega) (by omega) (fun hc5 => ?_) (fun hc5 => ?_)
  · omega
  · refine lv_aload_n (pc := 8) hx hb d_M_last_8 rfl (lv_at hl 0 rfl) ?_
    refine mg_wd (pc := 9) hC hw d_M_last_9 ?_
    refine lv_aload_n (pc := 12) hx hb d_M_last_12 rfl (lv_at hl 0 rfl) ?_
    refine mg_wl (pc := 13) hC hw d_M_last_13 ?_
    refine lv_iload_n (pc := 16) hx hb d_M_last_16 rfl (lv_at hl 1 rfl) ?_
    refine lv_isub (pc := 17) hx hb d_M_last_17 ?_
    refine g_top (y := nI (n - q)) (pk_sub (by omega)) ?_
    refine ml_wd (pc := 18) (i := n - q) (by omega) hC hw d_M_last_18 ?_
    refine lv_goto (pc := 19) (tgt := 23) hx hb d_M_last_19 (by decide) ?_
    exact hQ _ _ _ _ _ _ hw (rfl) (⟨rfl, rfl⟩) d_M_last_23
set_option maxHeartbeats 4000000 in
set_option maxRecDepth 100000 in
theorem c_M_note_y (l : Launch) (D : va_G) (g : Nat → Nat) (k : Nat → ClassId) (tp : Nat → Int32) (tl : Int32) (tm : Nat → Int32) (sz : Nat → Int32) (ct : Int32) (wd : Nat → Int32) (tb : Nat → Int32) {n j : Nat} (h : n ≤ 300) (hj : j < 151) (hby : ∀ i, i < n → by_ok (wd i)) : gMv l y_M_note (gW y_M_note b_M_note 5 none) (gR 1) D (mT k) (mw g k) [.ref (g 0), .int (nI j), .int 1] (tp, tl, tm, sz, ct, wd, (nI n), tb) (fun u => ∃ tm1 sz1 wd1, u = (tp, tl, tm1, sz1, ct, wd1, nI n, tb) ∧ wrt tm sz tm1 sz1 j (stm wd n)) := by
  refine g_startv (by decide) (Nat.le_of_ble_eq_true rfl) ?_
  intro p ev s m args below meth cd A Q ls hC hQ hl hw
  have hx := hC.1.1
  have hb := hC.1.2.1
  have hl : lv_has ls 5 [(0, .ref (g 0)), (1, .int (nI j)), (2, .int 1)] := hl
  have lp : ∀ (fu : Nat) (q : Nat) (wd1 : Nat → Int32) (x : Nat) (tm1 : Nat → Int32) (ls : Array Slot) (H : Heap) (locs : List Loc), min q 24 - x < fu → lv_has ls 5 [(0, .ref (g 0)), (1, .int (nI j)), (3, .int (nI (min q 24))), (4, .int (nI x))] → gH D (mw g k) A s.heap (tp, tl, tm1, sz, ct, wd1, (nI n), tb) H locs → (q ≤ 300) → (∀ i, i < q → by_ok (wd1 i)) → (∀ tm2 sz2, wrt tm sz tm2 sz2 j (pln wd1 q) → wrt tm sz tm2 sz2 j (stm wd n)) → (x ≤ min q 24) → (∀ i, i < x → tm1 (24 * j + i) = wd1 i) → (∀ y, (y < 24 * j ∨ 24 * j + 24 ≤ y) → tm1 y = tm y) → W p l ev (gR 1) s m args below meth cd H locs 0 0 Q (F0 m 114 ls []) := by
    intro fu
    induction fu with
    | zero => intro q wd1 x tm1 ls H locs hn hl hw hq hqb hres h1 h2 h3; exact absurd hn (Nat.not_lt_zero _)
    | succ fu ih =>
      intro q wd1 x tm1 ls H locs hn hl hw hq hqb hres h1 h2 h3
      refine lv_iload (pc := 114) hx hb d_M_note_114 (lv_at hl 3 rfl) ?_
      refine lv_iload_n (pc := 116) hx hb d_M_note_116 rfl (lv_at hl 2 rfl) ?_
      refine nc_ge (pc := 117) (tgt := 145) hx hb d_M_note_117 (by decide) (by omega) (by omega) (fun hc117 => ?_) (fun hc117 => ?_)
      · have ex : x = min q 24 := by omega
        subst ex
        refine lv_aload_n (pc := 145) hx hb d_M_note_145 rfl (lv_at hl 0 rfl) ?_
        refine mg_sz (pc := 146) hC hw d_M_note_146 ?_
        refine lv_iload_n (pc := 149) hx hb d_M_note_149 rfl (lv_at hl 1 rfl) ?_
        refine lv_iload_n (pc := 150) hx hb d_M_note_150 rfl (lv_at hl 2 rfl) ?_
        refine ms_sz (pc := 151) (i := j) (x := nI (min q 24)) (by omega) hC hw d_M_note_151 (fun H locs hw => ?_)
        exact hQ _ _ _ _ _ hw (⟨tm1, _, wd1, rfl, hres _ _ ⟨Nat.min_le_right _ _, rfl, h2, h3⟩⟩) d_M_note_152
      · refine lv_aload_n (pc := 120) hx hb d_M_note_120 rfl (lv_at hl 0 rfl) ?_
        refine mg_tm (pc := 121) hC hw d_M_note_121 ?_
        refine lv_bipush (pc := 124) (v := nI 24) hx hb d_M_note_124 (by decide) ?_
        refine lv_iload_n (pc := 126) hx hb d_M_note_126 rfl (lv_at hl 1 rfl) ?_
        refine lv_imul (pc := 127) hx hb d_M_note_127 ?_
        refine g_top (y := nI (24 * j)) (pk_mul _ _) ?_
        refine lv_iload (pc := 128) hx hb d_M_note_128 (lv_at hl 3 rfl) ?_
        refine lv_iadd (pc := 130) hx hb d_M_note_130 ?_
        refine g_top (y := nI ((24 * j) + x)) (nI_add _ _) ?_
        refine lv_aload_n (pc := 131) hx hb d_M_note_131 rfl (lv_at hl 0 rfl) ?_
        refine mg_wd (pc := 132) hC hw d_M_note_132 ?_
        refine lv_iload (pc := 135) hx hb d_M_note_135 (lv_at hl 3 rfl) ?_
        refine ml_wd (pc := 137) (i := x) (by omega) hC hw d_M_note_137 ?_
        refine ms_tm (pc := 138) (i := (24 * j) + x) (x := wd1 x) (by omega) (hqb x (by omega)) hC hw d_M_note_138 (fun H locs hw => ?_)
        refine lv_iinc (pc := 139) (k := 3) (v := nI (x + 1)) hx hb d_M_note_139 hl rfl (nI_i1 x) (by decide) rfl (fun ls hl => ?_)
        have hl : lv_has ls 5 [(4, .int (nI (x + 1))), (0, .ref (g 0)), (1, .int (nI j)), (3, .int (nI (min q 24)))] := hl
        refine lv_goto (pc := 142) (tgt := 114) hx hb d_M_note_142 (by decide) ?_
        refine ih q wd1 (x + 1) _ _ _ _ (by omega) (lv_sub hl [1, 2, 3, 0] rfl) hw hq hqb hres (by omega) (fun i qi => ?_) (fun y hy => ?_)
        · by_cases ei : i = x
          · rw [ei, pk_us]
          · rw [pk_un (by omega)]; exact h2 i (by omega)
        · rw [pk_un (by omega)]; exact h3 y hy
  have tail : ∀ (q : Nat) (wd1 : Nat → Int32) (ls : Array Slot) (H : Heap) (locs : List Loc), lv_has ls 5 [(0, .ref (g 0)), (1, .int (nI j)), (3, .int (nI q))] → gH D (mw g k) A s.heap (tp, tl, tm, sz, ct, wd1, (nI n), tb) H locs → q ≤ 300 → (∀ i, i < q → by_ok (wd1 i)) → (∀ tm2 sz2, wrt tm sz tm2 sz2 j (pln wd1 q) → wrt tm sz tm2 sz2 j (stm wd n)) → W p l ev (gR 1) s m args below meth cd H locs 0 0 Q (F0 m 102 ls []) := by
    intro q wd1 ls H locs hl hw hq hqb hres
    refine lv_iload_n (pc := 102) hx hb d_M_note_102 rfl (lv_at hl 2 rfl) ?_
    refine lv_bipush (pc := 103) (v := nI 24) hx hb d_M_note_103 (by decide) ?_
    refine nc_le (pc := 105) (tgt := 111) hx hb d_M_note_105 (by decide) (by omega) (by omega) (fun hc105 => ?_) (fun hc105 => ?_)
    · refine lv_iconst (pc := 111) (v := nI 0) hx hb d_M_note_111 (by decide) ?_
      refine lv_istore (pc := 112) hx hb d_M_note_112 hl (by decide) rfl (fun ls hl => ?_)
      have hl : lv_has ls 5 [(4, .int (nI 0)), (0, .ref (g 0)), (1, .int (nI j)), (3, .int (nI q))] := hl
      exact lp (min q 24 + 1) q wd1 0 tm _ _ _ (by omega) (by rw [show min q 24 = q by omega]; exact (lv_sub hl [1, 2, 3, 0] rfl)) hw hq hqb hres (Nat.zero_le _) (fun i qi => absurd qi (Nat.not_lt_zero _)) (fun y _ => rfl)
    · refine lv_bipush (pc := 108) (v := nI 24) hx hb d_M_note_108 (by decide) ?_
      refine lv_istore_n (pc := 110) hx hb d_M_note_110 rfl hl (by decide) rfl (fun ls hl => ?_)
      have hl : lv_has ls 5 [(3, .int (nI 24)), (0, .ref (g 0)), (1, .int (nI j))] := hl
      refine lv_iconst (pc := 111) (v := nI 0) hx hb d_M_note_111 (by decide) ?_
      refine lv_istore (pc := 112) hx hb d_M_note_112 hl (by decide) rfl (fun ls hl => ?_)
      have hl : lv_has ls 5 [(4, .int (nI 0)), (3, .int (nI 24)), (0, .ref (g 0)), (1, .int (nI j))] := hl
      exact lp (min q 24 + 1) q wd1 0 tm _ _ _ (by omega) (by rw [show min q 24 = 24 by omega]; exact (lv_sub hl [2, 3, 1, 0] rfl)) hw hq hqb hres (Nat.zero_le _) (fun i qi => absurd qi (Nat.not_lt_zero _)) (fun y _ => rfl)
  refine lv_aload_n (pc := 0) hx hb d_M_note_0 rfl (lv_at hl 0 rfl) ?_
  refine mg_wl (pc := 1) hC hw d_M_note_1 ?_
  refine lv_istore_n (pc := 4) hx hb d_M_note_4 rfl hl (by decide) rfl (fun ls hl => ?_)
  have hl : lv_has ls 5 [(3, .int (nI n)), (0, .ref (g 0)), (1, .int (nI j)), (2, .int 1)] := hl
  refine lv_iload_n (pc := 5) hx hb d_M_note_5 rfl (lv_at hl 3 rfl) ?_
  refine lv_if_eq (pc := 6) (tgt := 60) hx hb d_M_note_6 (by decide) (fun hc6 => ?_) (fun hc6 => ?_)
  · exact absurd hc6 (by decide)
  · refine lv_iload_n (pc := 9) hx hb d_M_note_9 rfl (lv_at hl 0 rfl) ?_
    refine lv_iconst (pc := 10) (v := nI 5) hx hb d_M_note_10 (by decide) ?_
    refine nc_lt (pc := 11) (tgt := 60) hx hb d_M_note_11 (by decide) (by omega) (by omega) (fun hc11 => ?_) (fun hc11 => ?_)
    · have hni : ¬ ies wd n = true := by unfold ies; rw [decide_eq_true_eq]; exact fun q => absurd q.1 (by omega)
      refine lv_iload_n (pc := 60) hx hb d_M_note_60 rfl (lv_at hl 3 rfl) ?_
      refine lv_if_eq (pc := 61) (tgt := 102) hx hb d_M_note_61 (by decide) (fun hc61 => ?_) (fun hc61 => ?_)
      · exact absurd hc61 (by decide)
      · refine lv_iload_n (pc := 64) hx hb d_M_note_64 rfl (lv_at hl 0 rfl) ?_
        refine lv_iconst (pc := 65) (v := nI 4) hx hb d_M_note_65 (by decide) ?_
        refine nc_lt (pc := 66) (tgt := 102) hx hb d_M_note_66 (by decide) (by omega) (by omega) (fun hc66 => ?_) (fun hc66 => ?_)
        · exact tail (n) wd _ _ _ (lv_sub hl [1, 2, 0] rfl) hw (by omega) (hby) (fun _ _ z => by unfold stm; rw [if_neg hni, if_neg (by unfold los; rw [decide_eq_true_eq]; exact fun q => absurd q.1 (by omega))]; exact z)
        · refine lv_aload_n (pc := 69) hx hb d_M_note_69 rfl (lv_at hl 1 rfl) ?_
          refine lv_iconst (pc := 70) (v := nI 1) hx hb d_M_note_70 (by decide) ?_
          refine g_calli (pc := 71) (as := [.int (nI 1)]) (rest := []) hC hw (c_M_last l D g k tp tl tm sz ct wd tb (n := n) (q := 1) h (by omega) (by omega)) lm_M_last f_M_last rfl rfl rfl rfl ⟨by decide, by decide⟩ hl.1 (Nat.le_of_ble_eq_true rfl) d_M_note_71 (fun r u1 H locs hp hw => ?_)
          obtain ⟨rfl, rfl⟩ := hp
          refine lv_bipush (pc := 74) (v := 115) hx hb d_M_note_74 (by decide) ?_
          refine lv_icmp_ne (pc := 76) (tgt := 102) hx hb d_M_note_76 (by decide) (fun hc76 => ?_) (fun hc76 => ?_)
          · exact tail (n) wd _ _ _ (lv_sub hl [1, 2, 0] rfl) hw (by omega) (hby) (fun _ _ z => by unfold stm; rw [if_neg hni, if_neg (by unfold los; rw [decide_eq_true_eq]; exact fun q => hc76 q.2.1)]; exact z)
          · refine lv_aload_n (pc := 79) hx hb d_M_note_79 rfl (lv_at hl 1 rfl) ?_
            refine lv_iconst (pc := 80) (v := nI 2) hx hb d_M_note_80 (by decide) ?_
            refine g_calli (pc := 81) (as := [.int (nI 2)]) (rest := []) hC hw (c_M_last l D g k tp tl tm sz ct wd tb (n := n) (q := 2) h (by omega) (by omega)) lm_M_last f_M_last rfl rfl rfl rfl ⟨by decide, by decide⟩ hl.1 (Nat.le_of_ble_eq_true rfl) d_M_note_81 (fun r u1 H locs hp hw => ?_)
            obtain ⟨rfl, rfl⟩ := hp
            refine lv_bipush (pc := 84) (v := 115) hx hb d_M_note_84 (by decide) ?_
            refine lv_icmp_eq (pc := 86) (tgt := 102) hx hb d_M_note_86 (by decide) (fun hc86 => ?_) (fun hc86 => ?_)
            · exact tail (n) wd _ _ _ (lv_sub hl [1, 2, 0] rfl) hw (by omega) (hby) (fun _ _ z => by unfold stm; rw [if_neg hni, if_neg (by unfold los; rw [decide_eq_true_eq]; exact fun q => q.2.2.1 hc86)]; exact z)
            · refine lv_aload_n (pc := 89) hx hb d_M_note_89 rfl (lv_at hl 1 rfl) ?_
              refine lv_iconst (pc := 90) (v := nI 2) hx hb d_M_note_90 (by decide) ?_
              refine g_calli (pc := 91) (as := [.int (nI 2)]) (rest := []) hC hw (c_M_last l D g k tp tl tm sz ct wd tb (n := n) (q := 2) h (by omega) (by omega)) lm_M_last f_M_last rfl rfl rfl rfl ⟨by decide, by decide⟩ hl.1 (Nat.le_of_ble_eq_true rfl) d_M_note_91 (fun r u1 H locs hp hw => ?_)
              obtain ⟨rfl, rfl⟩ := hp
              refine lv_bipush (pc := 94) (v := 117) hx hb d_M_note_94 (by decide) ?_
              refine lv_icmp_eq (pc := 96) (tgt := 102) hx hb d_M_note_96 (by decide) (fun hc96 => ?_) (fun hc96 => ?_)
              · exact tail (n) wd _ _ _ (lv_sub hl [1, 2, 0] rfl) hw (by omega) (hby) (fun _ _ z => by unfold stm; rw [if_neg hni, if_neg (by unfold los; rw [decide_eq_true_eq]; exact fun q => q.2.2.2 hc96)]; exact z)
              · refine lv_iinc (pc := 99) (k := 0) (v := nI (n - 1)) hx hb d_M_note_99 hl rfl (n_m1 (by omega)) (by decide) rfl (fun ls hl => ?_)
                have hl : lv_has ls 5 [(3, .int (nI (n - 1))), (0, .ref (g 0)), (1, .int (nI j)), (2, .int 1)] := hl
                exact tail (n - 1) wd _ _ _ (lv_sub hl [1, 2, 0] rfl) hw (by omega) (fun i qi => hby i (by omega)) (fun _ _ z => by unfold stm; rw [if_neg hni, if_pos (by unfold los; rw [decide_eq_true_eq]; exact ⟨hc66, hc76, hc86, hc96⟩)]; exact z)
    · refine lv_aload_n (pc := 14) hx hb d_M_note_14 rfl (lv_at hl 1 rfl) ?_
      refine lv_iconst (pc := 15) (v := nI 1) hx hb d_M_note_15 (by decide) ?_
      refine g_calli (pc := 16) (as := [.int (nI 1)]) (rest := []) hC hw (c_M_last l D g k tp tl tm sz ct wd tb (n := n) (q := 1) h (by omega) (by omega)) lm_M_last f_M_last rfl rfl rfl rfl ⟨by decide, by decide⟩ hl.1 (Nat.le_of_ble_eq_true rfl) d_M_note_16 (fun r u1 H locs hp hw => ?_)
      obtain ⟨rfl, rfl⟩ := hp
      refine lv_bipush (pc := 19) (v := 115) hx hb d_M_note_19 (by decide) ?_
      refine lv_icmp_ne (pc := 21) (tgt := 60) hx hb d_M_note_21 (by decide) (fun hc21 => ?_) (fun hc21 => ?_)
      · have hni : ¬ ies wd n = true := by unfold ies; rw [decide_eq_true_eq]; exact fun q => hc21 q.2.1
        refine lv_iload_n (pc := 60) hx hb d_M_note_60 rfl (lv_at hl 3 rfl) ?_
        refine lv_if_eq (pc := 61) (tgt := 102) hx hb d_M_note_61 (by decide) (fun hc61 => ?_) (fun hc61 => ?_)
        · exact absurd hc61 (by decide)
        · refine lv_iload_n (pc := 64) hx hb d_M_note_64 rfl (lv_at hl 0 rfl) ?_
          refine lv_iconst (pc := 65) (v := nI 4) hx hb d_M_note_65 (by decide) ?_
          refine nc_lt (pc := 66) (tgt := 102) hx hb d_M_note_66 (by decide) (by omega) (by omega) (fun hc66 => ?_) (fun hc66 => ?_)
          · exact tail (n) wd _ _ _ (lv_sub hl [1, 2, 0] rfl) hw (by omega) (hby) (fun _ _ z => by unfold stm; rw [if_neg hni, if_neg (by unfold los; rw [decide_eq_true_eq]; exact fun q => absurd q.1 (by omega))]; exact z)
          · refine lv_aload_n (pc := 69) hx hb d_M_note_69 rfl (lv_at hl 1 rfl) ?_
            refine lv_iconst (pc := 70) (v := nI 1) hx hb d_M_note_70 (by decide) ?_
            refine g_calli (pc := 71) (as := [.int (nI 1)]) (rest := []) hC hw (c_M_last l D g k tp tl tm sz ct wd tb (n := n) (q := 1) h (by omega) (by omega)) lm_M_last f_M_last rfl rfl rfl rfl ⟨by decide, by decide⟩ hl.1 (Nat.le_of_ble_eq_true rfl) d_M_note_71 (fun r u1 H locs hp hw => ?_)
            obtain ⟨rfl, rfl⟩ := hp
            refine lv_bipush (pc := 74) (v := 115) hx hb d_M_note_74 (by decide) ?_
            refine lv_icmp_ne (pc := 76) (tgt := 102) hx hb d_M_note_76 (by decide) (fun hc76 => ?_) (fun hc76 => ?_)
            · exact tail (n) wd _ _ _ (lv_sub hl [1, 2, 0] rfl) hw (by omega) (hby) (fun _ _ z => by unfold stm; rw [if_neg hni, if_neg (by unfold los; rw [decide_eq_true_eq]; exact fun q => hc76 q.2.1)]; exact z)
            · refine lv_aload_n (pc := 79) hx hb d_M_note_79 rfl (lv_at hl 1 rfl) ?_
              refine lv_iconst (pc := 80) (v := nI 2) hx hb d_M_note_80 (by decide) ?_
              refine g_calli (pc := 81) (as := [.int (nI 2)]) (rest := []) hC hw (c_M_last l D g k tp tl tm sz ct wd tb (n := n) (q := 2) h (by omega) (by omega)) lm_M_last f_M_last rfl rfl rfl rfl ⟨by decide, by decide⟩ hl.1 (Nat.le_of_ble_eq_true rfl) d_M_note_81 (fun r u1 H locs hp hw => ?_)
              obtain ⟨rfl, rfl⟩ := hp
              refine lv_bipush (pc := 84) (v := 115) hx hb d_M_note_84 (by decide) ?_
              refine lv_icmp_eq (pc := 86) (tgt := 102) hx hb d_M_note_86 (by decide) (fun hc86 => ?_) (fun hc86 => ?_)
              · exact tail (n) wd _ _ _ (lv_sub hl [1, 2, 0] rfl) hw (by omega) (hby) (fun _ _ z => by unfold stm; rw [if_neg hni, if_neg (by unfold los; rw [decide_eq_true_eq]; exact fun q => q.2.2.1 hc86)]; exact z)
              · refine lv_aload_n (pc := 89) hx hb d_M_note_89 rfl (lv_at hl 1 rfl) ?_
                refine lv_iconst (pc := 90) (v := nI 2) hx hb d_M_note_90 (by decide) ?_
                refine g_calli (pc := 91) (as := [.int (nI 2)]) (rest := []) hC hw (c_M_last l D g k tp tl tm sz ct wd tb (n := n) (q := 2) h (by omega) (by omega)) lm_M_last f_M_last rfl rfl rfl rfl ⟨by decide, by decide⟩ hl.1 (Nat.le_of_ble_eq_true rfl) d_M_note_91 (fun r u1 H locs hp hw => ?_)
                obtain ⟨rfl, rfl⟩ := hp
                refine lv_bipush (pc := 94) (v := 117) hx hb d_M_note_94 (by decide) ?_
                refine lv_icmp_eq (pc := 96) (tgt := 102) hx hb d_M_note_96 (by decide) (fun hc96 => ?_) (fun hc96 => ?_)
                · exact tail (n) wd _ _ _ (lv_sub hl [1, 2, 0] rfl) hw (by omega) (hby) (fun _ _ z => by unfold stm; rw [if_neg hni, if_neg (by unfold los; rw [decide_eq_true_eq]; exact fun q => q.2.2.2 hc96)]; exact z)
                · refine lv_iinc (pc := 99) (k := 0) (v := nI (n - 1)) hx hb d_M_note_99 hl rfl (n_m1 (by omega)) (by decide) rfl (fun ls hl => ?_)
                  have hl : lv_has ls 5 [(3, .int (nI (n - 1))), (0, .ref (g 0)), (1, .int (nI j)), (2, .int 1)] := hl
                  exact tail (n - 1) wd _ _ _ (lv_sub hl [1, 2, 0] rfl) hw (by omega) (fun i qi => hby i (by omega)) (fun _ _ z => by unfold stm; rw [if_neg hni, if_pos (by unfold los; rw [decide_eq_true_eq]; exact ⟨hc66, hc76, hc86, hc96⟩)]; exact z)
      · refine lv_aload_n (pc := 24) hx hb d_M_note_24 rfl (lv_at hl 1 rfl) ?_
        refine lv_iconst (pc := 25) (v := nI 2) hx hb d_M_note_25 (by decide) ?_
        refine g_calli (pc := 26) (as := [.int (nI 2)]) (rest := []) hC hw (c_M_last l D g k tp tl tm sz ct wd tb (n := n) (q := 2) h (by omega) (by omega)) lm_M_last f_M_last rfl rfl rfl rfl ⟨by decide, by decide⟩ hl.1 (Nat.le_of_ble_eq_true rfl) d_M_note_26 (fun r u1 H locs hp hw => ?_)
        obtain ⟨rfl, rfl⟩ := hp
        refine lv_bipush (pc := 29) (v := 101) hx hb d_M_note_29 (by decide) ?_
        refine lv_icmp_ne (pc := 31) (tgt := 60) hx hb d_M_note_31 (by decide) (fun hc31 => ?_) (fun hc31 => ?_)
        · have hni : ¬ ies wd n = true := by unfold ies; rw [decide_eq_true_eq]; exact fun q => hc31 q.2.2.1
          refine lv_iload_n (pc := 60) hx hb d_M_note_60 rfl (lv_at hl 3 rfl) ?_
          refine lv_if_eq (pc := 61) (tgt := 102) hx hb d_M_note_61 (by decide) (fun hc61 => ?_) (fun hc61 => ?_)
          · exact absurd hc61 (by decide)
          · refine lv_iload_n (pc := 64) hx hb d_M_note_64 rfl (lv_at hl 0 rfl) ?_
            refine lv_iconst (pc := 65) (v := nI 4) hx hb d_M_note_65 (by decide) ?_
            refine nc_lt (pc := 66) (tgt := 102) hx hb d_M_note_66 (by decide) (by omega) (by omega) (fun hc66 => ?_) (fun hc66 => ?_)
            · exact tail (n) wd _ _ _ (lv_sub hl [1, 2, 0] rfl) hw (by omega) (hby) (fun _ _ z => by unfold stm; rw [if_neg hni, if_neg (by unfold los; rw [decide_eq_true_eq]; exact fun q => absurd q.1 (by omega))]; exact z)
            · refine lv_aload_n (pc := 69) hx hb d_M_note_69 rfl (lv_at hl 1 rfl) ?_
              refine lv_iconst (pc := 70) (v := nI 1) hx hb d_M_note_70 (by decide) ?_
              refine g_calli (pc := 71) (as := [.int (nI 1)]) (rest := []) hC hw (c_M_last l D g k tp tl tm sz ct wd tb (n := n) (q := 1) h (by omega) (by omega)) lm_M_last f_M_last rfl rfl rfl rfl ⟨by decide, by decide⟩ hl.1 (Nat.le_of_ble_eq_true rfl) d_M_note_71 (fun r u1 H locs hp hw => ?_)
              obtain ⟨rfl, rfl⟩ := hp
              refine lv_bipush (pc := 74) (v := 115) hx hb d_M_note_74 (by decide) ?_
              refine lv_icmp_ne (pc := 76) (tgt := 102) hx hb d_M_note_76 (by decide) (fun hc76 => ?_) (fun hc76 => ?_)
              · exact tail (n) wd _ _ _ (lv_sub hl [1, 2, 0] rfl) hw (by omega) (hby) (fun _ _ z => by unfold stm; rw [if_neg hni, if_neg (by unfold los; rw [decide_eq_true_eq]; exact fun q => hc76 q.2.1)]; exact z)
              · refine lv_aload_n (pc := 79) hx hb d_M_note_79 rfl (lv_at hl 1 rfl) ?_
                refine lv_iconst (pc := 80) (v := nI 2) hx hb d_M_note_80 (by decide) ?_
                refine g_calli (pc := 81) (as := [.int (nI 2)]) (rest := []) hC hw (c_M_last l D g k tp tl tm sz ct wd tb (n := n) (q := 2) h (by omega) (by omega)) lm_M_last f_M_last rfl rfl rfl rfl ⟨by decide, by decide⟩ hl.1 (Nat.le_of_ble_eq_true rfl) d_M_note_81 (fun r u1 H locs hp hw => ?_)
                obtain ⟨rfl, rfl⟩ := hp
                refine lv_bipush (pc := 84) (v := 115) hx hb d_M_note_84 (by decide) ?_
                refine lv_icmp_eq (pc := 86) (tgt := 102) hx hb d_M_note_86 (by decide) (fun hc86 => ?_) (fun hc86 => ?_)
                · exact tail (n) wd _ _ _ (lv_sub hl [1, 2, 0] rfl) hw (by omega) (hby) (fun _ _ z => by unfold stm; rw [if_neg hni, if_neg (by unfold los; rw [decide_eq_true_eq]; exact fun q => q.2.2.1 hc86)]; exact z)
                · refine lv_aload_n (pc := 89) hx hb d_M_note_89 rfl (lv_at hl 1 rfl) ?_
                  refine lv_iconst (pc := 90) (v := nI 2) hx hb d_M_note_90 (by decide) ?_
                  refine g_calli (pc := 91) (as := [.int (nI 2)]) (rest := []) hC hw (c_M_last l D g k tp tl tm sz ct wd tb (n := n) (q := 2) h (by omega) (by omega)) lm_M_last f_M_last rfl rfl rfl rfl ⟨by decide, by decide⟩ hl.1 (Nat.le_of_ble_eq_true rfl) d_M_note_91 (fun r u1 H locs hp hw => ?_)
                  obtain ⟨rfl, rfl⟩ := hp
                  refine lv_bipush (pc := 94) (v := 117) hx hb d_M_note_94 (by decide) ?_
                  refine lv_icmp_eq (pc := 96) (tgt := 102) hx hb d_M_note_96 (by decide) (fun hc96 => ?_) (fun hc96 => ?_)
                  · exact tail (n) wd _ _ _ (lv_sub hl [1, 2, 0] rfl) hw (by omega) (hby) (fun _ _ z => by unfold stm; rw [if_neg hni, if_neg (by unfold los; rw [decide_eq_true_eq]; exact fun q => q.2.2.2 hc96)]; exact z)
                  · refine lv_iinc (pc := 99) (k := 0) (v := nI (n - 1)) hx hb d_M_note_99 hl rfl (n_m1 (by omega)) (by decide) rfl (fun ls hl => ?_)
                    have hl : lv_has ls 5 [(3, .int (nI (n - 1))), (0, .ref (g 0)), (1, .int (nI j)), (2, .int 1)] := hl
                    exact tail (n - 1) wd _ _ _ (lv_sub hl [1, 2, 0] rfl) hw (by omega) (fun i qi => hby i (by omega)) (fun _ _ z => by unfold stm; rw [if_neg hni, if_pos (by unfold los; rw [decide_eq_true_eq]; exact ⟨hc66, hc76, hc86, hc96⟩)]; exact z)
        · refine lv_aload_n (pc := 34) hx hb d_M_note_34 rfl (lv_at hl 1 rfl) ?_
          refine lv_iconst (pc := 35) (v := nI 3) hx hb d_M_note_35 (by decide) ?_
          refine g_calli (pc := 36) (as := [.int (nI 3)]) (rest := []) hC hw (c_M_last l D g k tp tl tm sz ct wd tb (n := n) (q := 3) h (by omega) (by omega)) lm_M_last f_M_last rfl rfl rfl rfl ⟨by decide, by decide⟩ hl.1 (Nat.le_of_ble_eq_true rfl) d_M_note_36 (fun r u1 H locs hp hw => ?_)
          obtain ⟨rfl, rfl⟩ := hp
          refine lv_bipush (pc := 39) (v := 105) hx hb d_M_note_39 (by decide) ?_
          refine lv_icmp_ne (pc := 41) (tgt := 60) hx hb d_M_note_41 (by decide) (fun hc41 => ?_) (fun hc41 => ?_)
          · have hni : ¬ ies wd n = true := by unfold ies; rw [decide_eq_true_eq]; exact fun q => hc41 q.2.2.2
            refine lv_iload_n (pc := 60) hx hb d_M_note_60 rfl (lv_at hl 3 rfl) ?_
            refine lv_if_eq (pc := 61) (tgt := 102) hx hb d_M_note_61 (by decide) (fun hc61 => ?_) (fun hc61 => ?_)
            · exact absurd hc61 (by decide)
            · refine lv_iload_n (pc := 64) hx hb d_M_note_64 rfl (lv_at hl 0 rfl) ?_
              refine lv_iconst (pc := 65) (v := nI 4) hx hb d_M_note_65 (by decide) ?_
              refine nc_lt (pc := 66) (tgt := 102) hx hb d_M_note_66 (by decide) (by omega) (by omega) (fun hc66 => ?_) (fun hc66 => ?_)
              · exact tail (n) wd _ _ _ (lv_sub hl [1, 2, 0] rfl) hw (by omega) (hby) (fun _ _ z => by unfold stm; rw [if_neg hni, if_neg (by unfold los; rw [decide_eq_true_eq]; exact fun q => absurd q.1 (by omega))]; exact z)
              · refine lv_aload_n (pc := 69) hx hb d_M_note_69 rfl (lv_at hl 1 rfl) ?_
                refine lv_iconst (pc := 70) (v := nI 1) hx hb d_M_note_70 (by decide) ?_
                refine g_calli (pc := 71) (as := [.int (nI 1)]) (rest := []) hC hw (c_M_last l D g k tp tl tm sz ct wd tb (n := n) (q := 1) h (by omega) (by omega)) lm_M_last f_M_last rfl rfl rfl rfl ⟨by decide, by decide⟩ hl.1 (Nat.le_of_ble_eq_true rfl) d_M_note_71 (fun r u1 H locs hp hw => ?_)
                obtain ⟨rfl, rfl⟩ := hp
                refine lv_bipush (pc := 74) (v := 115) hx hb d_M_note_74 (by decide) ?_
                refine lv_icmp_ne (pc := 76) (tgt := 102) hx hb d_M_note_76 (by decide) (fun hc76 => ?_) (fun hc76 => ?_)
                · exact tail (n) wd _ _ _ (lv_sub hl [1, 2, 0] rfl) hw (by omega) (hby) (fun _ _ z => by unfold stm; rw [if_neg hni, if_neg (by unfold los; rw [decide_eq_true_eq]; exact fun q => hc76 q.2.1)]; exact z)
                · refine lv_aload_n (pc := 79) hx hb d_M_note_79 rfl (lv_at hl 1 rfl) ?_
                  refine lv_iconst (pc := 80) (v := nI 2) hx hb d_M_note_80 (by decide) ?_
                  refine g_calli (pc := 81) (as := [.int (nI 2)]) (rest := []) hC hw (c_M_last l D g k tp tl tm sz ct wd tb (n := n) (q := 2) h (by omega) (by omega)) lm_M_last f_M_last rfl rfl rfl rfl ⟨by decide, by decide⟩ hl.1 (Nat.le_of_ble_eq_true rfl) d_M_note_81 (fun r u1 H locs hp hw => ?_)
                  obtain ⟨rfl, rfl⟩ := hp
                  refine lv_bipush (pc := 84) (v := 115) hx hb d_M_note_84 (by decide) ?_
                  refine lv_icmp_eq (pc := 86) (tgt := 102) hx hb d_M_note_86 (by decide) (fun hc86 => ?_) (fun hc86 => ?_)
                  · exact tail (n) wd _ _ _ (lv_sub hl [1, 2, 0] rfl) hw (by omega) (hby) (fun _ _ z => by unfold stm; rw [if_neg hni, if_neg (by unfold los; rw [decide_eq_true_eq]; exact fun q => q.2.2.1 hc86)]; exact z)
                  · refine lv_aload_n (pc := 89) hx hb d_M_note_89 rfl (lv_at hl 1 rfl) ?_
                    refine lv_iconst (pc := 90) (v := nI 2) hx hb d_M_note_90 (by decide) ?_
                    refine g_calli (pc := 91) (as := [.int (nI 2)]) (rest := []) hC hw (c_M_last l D g k tp tl tm sz ct wd tb (n := n) (q := 2) h (by omega) (by omega)) lm_M_last f_M_last rfl rfl rfl rfl ⟨by decide, by decide⟩ hl.1 (Nat.le_of_ble_eq_true rfl) d_M_note_91 (fun r u1 H locs hp hw => ?_)
                    obtain ⟨rfl, rfl⟩ := hp
                    refine lv_bipush (pc := 94) (v := 117) hx hb d_M_note_94 (by decide) ?_
                    refine lv_icmp_eq (pc := 96) (tgt := 102) hx hb d_M_note_96 (by decide) (fun hc96 => ?_) (fun hc96 => ?_)
                    · exact tail (n) wd _ _ _ (lv_sub hl [1, 2, 0] rfl) hw (by omega) (hby) (fun _ _ z => by unfold stm; rw [if_neg hni, if_neg (by unfold los; rw [decide_eq_true_eq]; exact fun q => q.2.2.2 hc96)]; exact z)
                    · refine lv_iinc (pc := 99) (k := 0) (v := nI (n - 1)) hx hb d_M_note_99 hl rfl (n_m1 (by omega)) (by decide) rfl (fun ls hl => ?_)
                      have hl : lv_has ls 5 [(3, .int (nI (n - 1))), (0, .ref (g 0)), (1, .int (nI j)), (2, .int 1)] := hl
                      exact tail (n - 1) wd _ _ _ (lv_sub hl [1, 2, 0] rfl) hw (by omega) (fun i qi => hby i (by omega)) (fun _ _ z => by unfold stm; rw [if_neg hni, if_pos (by unfold los; rw [decide_eq_true_eq]; exact ⟨hc66, hc76, hc86, hc96⟩)]; exact z)
          · refine lv_aload_n (pc := 44) hx hb d_M_note_44 rfl (lv_at hl 1 rfl) ?_
            refine mg_wd (pc := 45) hC hw d_M_note_45 ?_
            refine lv_iload_n (pc := 48) hx hb d_M_note_48 rfl (lv_at hl 0 rfl) ?_
            refine lv_iconst (pc := 49) (v := nI 3) hx hb d_M_note_49 (by decide) ?_
            refine lv_isub (pc := 50) hx hb d_M_note_50 ?_
            refine g_top (y := nI (n - 3)) (pk_sub (by omega)) ?_
            refine lv_bipush (pc := 51) (v := 121) hx hb d_M_note_51 (by decide) ?_
            refine ms_wd (pc := 53) (i := n - 3) (x := 121) (by omega) (by decide) hC hw d_M_note_53 (fun H locs hw => ?_)
            refine lv_iinc (pc := 54) (k := 0) (v := nI (n - 2)) hx hb d_M_note_54 hl rfl (n_m2 (by omega)) (by decide) rfl (fun ls hl => ?_)
            have hl : lv_has ls 5 [(3, .int (nI (n - 2))), (0, .ref (g 0)), (1, .int (nI j)), (2, .int 1)] := hl
            refine lv_goto (pc := 57) (tgt := 102) hx hb d_M_note_57 (by decide) ?_
            exact tail (n - 2) (upd wd (n - 3) 121) _ _ _ (lv_sub hl [1, 2, 0] rfl) hw (by omega) (fun i qi => by
                by_cases ei : i = n - 3
                · rw [ei, pk_us]; exact (by decide : (121 : Int32).toInt8.toInt32 = 121)
                · rw [pk_un ei]; exact hby i (by omega)) (fun _ _ z => by
                unfold stm
                rw [if_pos (by unfold ies; rw [decide_eq_true_eq]; exact ⟨hc11, hc21, hc31, hc41⟩)]
                exact wrt_ext z rfl (fun i _ => rfl))
set_option maxHeartbeats 4000000 in
set_option maxRecDepth 100000 in
theorem c_M_note_n (l : Launch) (D : va_G) (g : Nat → Nat) (k : Nat → ClassId) (tp : Nat → Int32) (tl : Int32) (tm : Nat → Int32) (sz : Nat → Int32) (ct : Int32) (wd : Nat → Int32) (tb : Nat → Int32) {n j : Nat} (h : n ≤ 300) (hj : j < 151) (hby : ∀ i, i < n → by_ok (wd i)) : gMv l y_M_note (gW y_M_note b_M_note 5 none) (gR 1) D (mT k) (mw g k) [.ref (g 0), .int (nI j), .int 0] (tp, tl, tm, sz, ct, wd, (nI n), tb) (fun u => ∃ tm1 sz1 wd1, u = (tp, tl, tm1, sz1, ct, wd1, nI n, tb) ∧ wrt tm sz tm1 sz1 j (pln wd n)) := by
  refine g_startv (by decide) (Nat.le_of_ble_eq_true rfl) ?_
  intro p ev s m args below meth cd A Q ls hC hQ hl hw
  have hx := hC.1.1
  have hb := hC.1.2.1
  have hl : lv_has ls 5 [(0, .ref (g 0)), (1, .int (nI j)), (2, .int 0)] := hl
  have lp : ∀ (fu : Nat) (q : Nat) (wd1 : Nat → Int32) (x : Nat) (tm1 : Nat → Int32) (ls : Array Slot) (H : Heap) (locs : List Loc), min q 24 - x < fu → lv_has ls 5 [(0, .ref (g 0)), (1, .int (nI j)), (3, .int (nI (min q 24))), (4, .int (nI x))] → gH D (mw g k) A s.heap (tp, tl, tm1, sz, ct, wd1, (nI n), tb) H locs → (q ≤ 300) → (∀ i, i < q → by_ok (wd1 i)) → (∀ tm2 sz2, wrt tm sz tm2 sz2 j (pln wd1 q) → wrt tm sz tm2 sz2 j (pln wd n)) → (x ≤ min q 24) → (∀ i, i < x → tm1 (24 * j + i) = wd1 i) → (∀ y, (y < 24 * j ∨ 24 * j + 24 ≤ y) → tm1 y = tm y) → W p l ev (gR 1) s m args below meth cd H locs 0 0 Q (F0 m 114 ls []) := by
    intro fu
    induction fu with
    | zero => intro q wd1 x tm1 ls H locs hn hl hw hq hqb hres h1 h2 h3; exact absurd hn (Nat.not_lt_zero _)
    | succ fu ih =>
      intro q wd1 x tm1 ls H locs hn hl hw hq hqb hres h1 h2 h3
      refine lv_iload (pc := 114) hx hb d_M_note_114 (lv_at hl 3 rfl) ?_
      refine lv_iload_n (pc := 116) hx hb d_M_note_116 rfl (lv_at hl 2 rfl) ?_
      refine nc_ge (pc := 117) (tgt := 145) hx hb d_M_note_117 (by decide) (by omega) (by omega) (fun hc117 => ?_) (fun hc117 => ?_)
      · have ex : x = min q 24 := by omega
        subst ex
        refine lv_aload_n (pc := 145) hx hb d_M_note_145 rfl (lv_at hl 0 rfl) ?_
        refine mg_sz (pc := 146) hC hw d_M_note_146 ?_
        refine lv_iload_n (pc := 149) hx hb d_M_note_149 rfl (lv_at hl 1 rfl) ?_
        refine lv_iload_n (pc := 150) hx hb d_M_note_150 rfl (lv_at hl 2 rfl) ?_
        refine ms_sz (pc := 151) (i := j) (x := nI (min q 24)) (by omega) hC hw d_M_note_151 (fun H locs hw => ?_)
        exact hQ _ _ _ _ _ hw (⟨tm1, _, wd1, rfl, hres _ _ ⟨Nat.min_le_right _ _, rfl, h2, h3⟩⟩) d_M_note_152
      · refine lv_aload_n (pc := 120) hx hb d_M_note_120 rfl (lv_at hl 0 rfl) ?_
        refine mg_tm (pc := 121) hC hw d_M_note_121 ?_
        refine lv_bipush (pc := 124) (v := nI 24) hx hb d_M_note_124 (by decide) ?_
        refine lv_iload_n (pc := 126) hx hb d_M_note_126 rfl (lv_at hl 1 rfl) ?_
        refine lv_imul (pc := 127) hx hb d_M_note_127 ?_
        refine g_top (y := nI (24 * j)) (pk_mul _ _) ?_
        refine lv_iload (pc := 128) hx hb d_M_note_128 (lv_at hl 3 rfl) ?_
        refine lv_iadd (pc := 130) hx hb d_M_note_130 ?_
        refine g_top (y := nI ((24 * j) + x)) (nI_add _ _) ?_
        refine lv_aload_n (pc := 131) hx hb d_M_note_131 rfl (lv_at hl 0 rfl) ?_
        refine mg_wd (pc := 132) hC hw d_M_note_132 ?_
        refine lv_iload (pc := 135) hx hb d_M_note_135 (lv_at hl 3 rfl) ?_
        refine ml_wd (pc := 137) (i := x) (by omega) hC hw d_M_note_137 ?_
        refine ms_tm (pc := 138) (i := (24 * j) + x) (x := wd1 x) (by omega) (hqb x (by omega)) hC hw d_M_note_138 (fun H locs hw => ?_)
        refine lv_iinc (pc := 139) (k := 3) (v := nI (x + 1)) hx hb d_M_note_139 hl rfl (nI_i1 x) (by decide) rfl (fun ls hl => ?_)
        have hl : lv_has ls 5 [(4, .int (nI (x + 1))), (0, .ref (g 0)), (1, .int (nI j)), (3, .int (nI (min q 24)))] := hl
        refine lv_goto (pc := 142) (tgt := 114) hx hb d_M_note_142 (by decide) ?_
        refine ih q wd1 (x + 1) _ _ _ _ (by omega) (lv_sub hl [1, 2, 3, 0] rfl) hw hq hqb hres (by omega) (fun i qi => ?_) (fun y hy => ?_)
        · by_cases ei : i = x
          · rw [ei, pk_us]
          · rw [pk_un (by omega)]; exact h2 i (by omega)
        · rw [pk_un (by omega)]; exact h3 y hy
  have tail : ∀ (q : Nat) (wd1 : Nat → Int32) (ls : Array Slot) (H : Heap) (locs : List Loc), lv_has ls 5 [(0, .ref (g 0)), (1, .int (nI j)), (3, .int (nI q))] → gH D (mw g k) A s.heap (tp, tl, tm, sz, ct, wd1, (nI n), tb) H locs → q ≤ 300 → (∀ i, i < q → by_ok (wd1 i)) → (∀ tm2 sz2, wrt tm sz tm2 sz2 j (pln wd1 q) → wrt tm sz tm2 sz2 j (pln wd n)) → W p l ev (gR 1) s m args below meth cd H locs 0 0 Q (F0 m 102 ls []) := by
    intro q wd1 ls H locs hl hw hq hqb hres
    refine lv_iload_n (pc := 102) hx hb d_M_note_102 rfl (lv_at hl 2 rfl) ?_
    refine lv_bipush (pc := 103) (v := nI 24) hx hb d_M_note_103 (by decide) ?_
    refine nc_le (pc := 105) (tgt := 111) hx hb d_M_note_105 (by decide) (by omega) (by omega) (fun hc105 => ?_) (fun hc105 => ?_)
    · refine lv_iconst (pc := 111) (v := nI 0) hx hb d_M_note_111 (by decide) ?_
      refine lv_istore (pc := 112) hx hb d_M_note_112 hl (by decide) rfl (fun ls hl => ?_)
      have hl : lv_has ls 5 [(4, .int (nI 0)), (0, .ref (g 0)), (1, .int (nI j)), (3, .int (nI q))] := hl
      exact lp (min q 24 + 1) q wd1 0 tm _ _ _ (by omega) (by rw [show min q 24 = q by omega]; exact (lv_sub hl [1, 2, 3, 0] rfl)) hw hq hqb hres (Nat.zero_le _) (fun i qi => absurd qi (Nat.not_lt_zero _)) (fun y _ => rfl)
    · refine lv_bipush (pc := 108) (v := nI 24) hx hb d_M_note_108 (by decide) ?_
      refine lv_istore_n (pc := 110) hx hb d_M_note_110 rfl hl (by decide) rfl (fun ls hl => ?_)
      have hl : lv_has ls 5 [(3, .int (nI 24)), (0, .ref (g 0)), (1, .int (nI j))] := hl
      refine lv_iconst (pc := 111) (v := nI 0) hx hb d_M_note_111 (by decide) ?_
      refine lv_istore (pc := 112) hx hb d_M_note_112 hl (by decide) rfl (fun ls hl => ?_)
      have hl : lv_has ls 5 [(4, .int (nI 0)), (3, .int (nI 24)), (0, .ref (g 0)), (1, .int (nI j))] := hl
      exact lp (min q 24 + 1) q wd1 0 tm _ _ _ (by omega) (by rw [show min q 24 = 24 by omega]; exact (lv_sub hl [2, 3, 1, 0] rfl)) hw hq hqb hres (Nat.zero_le _) (fun i qi => absurd qi (Nat.not_lt_zero _)) (fun y _ => rfl)
  refine lv_aload_n (pc := 0) hx hb d_M_note_0 rfl (lv_at hl 0 rfl) ?_
  refine mg_wl (pc := 1) hC hw d_M_note_1 ?_
  refine lv_istore_n (pc := 4) hx hb d_M_note_4 rfl hl (by decide) rfl (fun ls hl => ?_)
  have hl : lv_has ls 5 [(3, .int (nI n)), (0, .ref (g 0)), (1, .int (nI j)), (2, .int 0)] := hl
  refine lv_iload_n (pc := 5) hx hb d_M_note_5 rfl (lv_at hl 3 rfl) ?_
  refine lv_if_eq (pc := 6) (tgt := 60) hx hb d_M_note_6 (by decide) (fun hc6 => ?_) (fun hc6 => ?_)
  · refine lv_iload_n (pc := 60) hx hb d_M_note_60 rfl (lv_at hl 3 rfl) ?_
    refine lv_if_eq (pc := 61) (tgt := 102) hx hb d_M_note_61 (by decide) (fun hc61 => ?_) (fun hc61 => ?_)
    · exact tail (n) wd _ _ _ (lv_sub hl [1, 2, 0] rfl) hw (by omega) (hby) (fun _ _ z => z)
    · exact absurd rfl hc61
  · exact absurd rfl hc6
end
section
set_option maxHeartbeats 4000000 in
set_option maxRecDepth 100000 in
theorem c_M_oneWord (l : Launch) (D : va_G) (g : Nat → Nat) (k : Nat → ClassId) (tp : Nat → Int32) (tm : Nat → Int32) (sz : Nat → Int32) (ct : Int32) (wd : Nat → Int32) (wl : Int32) (tb : Nat → Int32) {n : Nat} (h : n ≤ 300) (hby : ∀ i, i < n → by_ok (tp i)) : gMi l y_M_oneWord (gW y_M_oneWord b_M_oneWord 2 (some .boolean)) (gR 2) D (mT k) (mw g k) [.ref (g 0)] (tp, (nI n), tm, sz, ct, wd, wl, tb) (fun r u => (isW (fun i => sm (tp i)) n = true ∧ r = 1 ∧ ∃ wd1, u = (tp, nI 0, tm, sz, ct, wd1, nI n, tb) ∧ ∀ i, i < n → wd1 i = sm (tp i)) ∨ (isW (fun i => sm (tp i)) n = false ∧ r = 0 ∧ ∃ wd1 wl1, u = (tp, nI 0, tm, sz, ct, wd1, wl1, tb))) := by
  refine g_starti (by decide) (Nat.le_of_ble_eq_true rfl) ?_
  intro p ev s m args below meth cd A Q ls hC hQ hl hw
  have hx := hC.1.1
  have hb := hC.1.2.1
  have hl : lv_has ls 2 [(0, .ref (g 0))] := hl
  refine lv_aload_n (pc := 0) hx hb d_M_oneWord_0 rfl (lv_at hl 0 rfl) ?_
  refine mg_tl (pc := 1) hC hw d_M_oneWord_1 ?_
  refine lv_if_le (pc := 4) (tgt := 23) hx hb d_M_oneWord_4 (by decide) (fun hc4 => ?_) (fun hc4 => ?_)
  · have en : n = 0 := Nat.le_zero.mp (Nat.not_lt.mp (fun q => absurd hc4 (nI_nle q (by omega))))
    refine lv_iconst (pc := 23) (v := 0) hx hb d_M_oneWord_23 (by decide) ?_
    refine lv_istore_n (pc := 24) hx hb d_M_oneWord_24 rfl hl (by decide) rfl (fun ls hl => ?_)
    have hl : lv_has ls 2 [(1, .int 0), (0, .ref (g 0))] := hl
    refine lv_aload_n (pc := 25) hx hb d_M_oneWord_25 rfl (lv_at hl 1 rfl) ?_
    refine lv_iconst (pc := 26) (v := nI 0) hx hb d_M_oneWord_26 (by decide) ?_
    refine mp_tl (pc := 27) hC hw d_M_oneWord_27 (fun H locs hw => ?_)
    have hw : gH D (mw g k) A _ (tp, (nI 0), tm, sz, ct, wd, wl, tb) H locs := hw
    refine lv_iload_n (pc := 30) hx hb d_M_oneWord_30 rfl (lv_at hl 0 rfl) ?_
    exact hQ _ _ _ _ _ _ hw (rfl) (Or.inr ⟨by rw [en]; rfl, rfl, wd, wl, rfl⟩) d_M_oneWord_31
  · have h0 : 0 < n := Nat.pos_of_ne_zero (fun q => hc4 (by rw [q]; decide))
    refine lv_aload_n (pc := 7) hx hb d_M_oneWord_7 rfl (lv_at hl 0 rfl) ?_
    refine lv_iconst (pc := 8) (v := nI 0) hx hb d_M_oneWord_8 (by decide) ?_
    refine g_calli (pc := 9) (as := [.int (nI 0)]) (rest := []) hC hw (c_M_run l D g k tp tm sz ct wd wl tb (n := n) (a := 0) h (Nat.zero_le _) hby) lm_M_run f_M_run rfl rfl rfl rfl ⟨by decide, by decide⟩ hl.1 (Nat.le_of_ble_eq_true rfl) d_M_oneWord_9 (fun r u1 H locs hp hw => ?_)
    obtain ⟨b, wd1, hb1, hb2, hb3, hb4, rfl, rfl, hb5⟩ := hp
    refine lv_aload_n (pc := 12) hx hb d_M_oneWord_12 rfl (lv_at hl 0 rfl) ?_
    refine mg_tl (pc := 13) hC hw d_M_oneWord_13 ?_
    refine nc_ne (pc := 16) (tgt := 23) hx hb d_M_oneWord_16 (by decide) (by omega) (by omega) (fun hc16 => ?_) (fun hc16 => ?_)
    · refine lv_iconst (pc := 23) (v := 0) hx hb d_M_oneWord_23 (by decide) ?_
      refine lv_istore_n (pc := 24) hx hb d_M_oneWord_24 rfl hl (by decide) rfl (fun ls hl => ?_)
      have hl : lv_has ls 2 [(1, .int 0), (0, .ref (g 0))] := hl
      refine lv_aload_n (pc := 25) hx hb d_M_oneWord_25 rfl (lv_at hl 1 rfl) ?_
      refine lv_iconst (pc := 26) (v := nI 0) hx hb d_M_oneWord_26 (by decide) ?_
      refine mp_tl (pc := 27) hC hw d_M_oneWord_27 (fun H locs hw => ?_)
      have hw : gH D (mw g k) A _ (tp, (nI 0), tm, sz, ct, wd1, (nI (b - 0)), tb) H locs := hw
      refine lv_iload_n (pc := 30) hx hb d_M_oneWord_30 rfl (lv_at hl 0 rfl) ?_
      exact hQ _ _ _ _ _ _ hw (rfl) (Or.inr ⟨isW_n (i := b) (by omega) (by rw [sgn_sm (hby b (by omega))]; exact hb4.resolve_left hc16), rfl, wd1, _, rfl⟩) d_M_oneWord_31
    · subst hc16
      refine lv_iconst (pc := 19) (v := 1) hx hb d_M_oneWord_19 (by decide) ?_
      refine lv_goto (pc := 20) (tgt := 24) hx hb d_M_oneWord_20 (by decide) ?_
      refine lv_istore_n (pc := 24) hx hb d_M_oneWord_24 rfl hl (by decide) rfl (fun ls hl => ?_)
      have hl : lv_has ls 2 [(1, .int 1), (0, .ref (g 0))] := hl
      refine lv_aload_n (pc := 25) hx hb d_M_oneWord_25 rfl (lv_at hl 1 rfl) ?_
      refine lv_iconst (pc := 26) (v := nI 0) hx hb d_M_oneWord_26 (by decide) ?_
      refine mp_tl (pc := 27) hC hw d_M_oneWord_27 (fun H locs hw => ?_)
      have hw : gH D (mw g k) A _ (tp, (nI 0), tm, sz, ct, wd1, (nI (b - 0)), tb) H locs := hw
      refine lv_iload_n (pc := 30) hx hb d_M_oneWord_30 rfl (lv_at hl 0 rfl) ?_
      exact hQ _ _ _ _ _ _ hw (rfl) (Or.inl ⟨isW_y h0 (fun i hi => by rw [sgn_sm (hby i hi)]; exact hb3 i (Nat.zero_le _) hi), rfl, wd1, rfl, fun i hi => by rw [hb5 i hi, Nat.zero_add]⟩) d_M_oneWord_31
set_option maxHeartbeats 4000000 in
set_option maxRecDepth 100000 in
theorem c_M_read (l : Launch) (D : va_G) (g : Nat → Nat) (k : Nat → ClassId) (tp : Nat → Int32) (tm : Nat → Int32) (sz : Nat → Int32) (ct : Int32) (wd : Nat → Int32) (wl : Int32) (tb : Nat → Int32) {n : Nat} (h : n ≤ 300) (hby : ∀ i, i < n → by_ok (tp i)) : gMi l y_M_read (gW y_M_read b_M_read 2 (some .int)) (gR 2) D (mT k) (mw g k) [.ref (g 0)] (tp, (nI n), tm, sz, ct, wd, wl, tb) (fun r u => ∃ tm1 sz1 wd1 wl1, r = nI (rdT (fun i => sm (tp i)) n).length ∧ u = (tp, nI 0, tm1, sz1, nI (rdT (fun i => sm (tp i)) n).length, wd1, wl1, tb) ∧ tok (rdT (fun i => sm (tp i)) n) tm1 sz1) := by
  refine g_starti (by decide) (Nat.le_of_ble_eq_true rfl) ?_
  intro p ev s m args below meth cd A Q ls hC hQ hl hw
  have hx := hC.1.1
  have hb := hC.1.2.1
  have hl : lv_has ls 2 [(0, .ref (g 0))] := hl
  refine lv_aload_n (pc := 0) hx hb d_M_read_0 rfl (lv_at hl 0 rfl) ?_
  refine lv_iconst (pc := 1) (v := nI 0) hx hb d_M_read_1 (by decide) ?_
  refine mp_ct (pc := 2) hC hw d_M_read_2 (fun H locs hw => ?_)
  have hw : gH D (mw g k) A _ (tp, (nI n), tm, sz, (nI 0), wd, wl, tb) H locs := hw
  refine lv_iconst (pc := 5) (v := nI 0) hx hb d_M_read_5 (by decide) ?_
  refine lv_istore_n (pc := 6) hx hb d_M_read_6 rfl hl (by decide) rfl (fun ls hl => ?_)
  have hl : lv_has ls 2 [(1, .int (nI 0)), (0, .ref (g 0))] := hl
  have lp : ∀ (fu : Nat) (b : Nat) (tm1 : Nat → Int32) (sz1 : Nat → Int32) (wd1 : Nat → Int32) (wl1 : Int32) (dn : List Tm) (ls : Array Slot) (H : Heap) (locs : List Loc), n - b < fu → lv_has ls 2 [(0, .ref (g 0)), (1, .int (nI b))] → gH D (mw g k) A s.heap (tp, (nI n), tm1, sz1, (nI dn.length), wd1, wl1, tb) H locs → (b ≤ n) → (tok dn tm1 sz1) → (dn ++ (scn (fun i => sgn ((fun i => sm (tp i)) i)) (n - b) b b).map (twd (fun i => sm (tp i))) = rdT (fun i => sm (tp i)) n) → W p l ev (gR 2) s m args below meth cd H locs 0 0 Q (F0 m 7 ls []) := by
    intro fu
    induction fu with
    | zero => intro b tm1 sz1 wd1 wl1 dn ls H locs hn hl hw h2 h4 h5; exact absurd hn (Nat.not_lt_zero _)
    | succ fu ih =>
      intro b tm1 sz1 wd1 wl1 dn ls H locs hn hl hw h2 h4 h5
      refine lv_iload_n (pc := 7) hx hb d_M_read_7 rfl (lv_at hl 1 rfl) ?_
      refine lv_aload_n (pc := 8) hx hb d_M_read_8 rfl (lv_at hl 0 rfl) ?_
      refine mg_tl (pc := 9) hC hw d_M_read_9 ?_
      refine nc_ge (pc := 12) (tgt := 61) hx hb d_M_read_12 (by decide) (by omega) (by omega) (fun hc12 => ?_) (fun hc12 => ?_)
      · have e1 : b = n := by omega
        have e3 : dn = rdT (fun i => sm (tp i)) n := by
          rw [← h5, show n - b = 0 by omega]
          unfold scn
          rw [if_neg (Nat.lt_irrefl b), List.map_nil, List.append_nil]
        subst e3
        refine lv_aload_n (pc := 61) hx hb d_M_read_61 rfl (lv_at hl 0 rfl) ?_
        refine lv_iconst (pc := 62) (v := nI 0) hx hb d_M_read_62 (by decide) ?_
        refine mp_tl (pc := 63) hC hw d_M_read_63 (fun H locs hw => ?_)
        have hw : gH D (mw g k) A _ (tp, (nI 0), tm1, sz1, (nI (rdT (fun i => sm (tp i)) n).length), wd1, wl1, tb) H locs := hw
        refine lv_aload_n (pc := 66) hx hb d_M_read_66 rfl (lv_at hl 0 rfl) ?_
        refine mg_ct (pc := 67) hC hw d_M_read_67 ?_
        exact hQ _ _ _ _ _ _ hw (rfl) (⟨tm1, sz1, wd1, wl1, rfl, rfl, h4⟩) d_M_read_70
      · refine lv_aload_n (pc := 15) hx hb d_M_read_15 rfl (lv_at hl 0 rfl) ?_
        refine mg_tp (pc := 16) hC hw d_M_read_16 ?_
        refine lv_iload_n (pc := 19) hx hb d_M_read_19 rfl (lv_at hl 1 rfl) ?_
        refine ml_tp (pc := 20) (i := b) (by omega) hC hw d_M_read_20 ?_
        refine g_calls (pc := 21) (as := [.int (tp b)]) (rest := []) hC hw (c_M_letter l D (tp b)) lm_M_letter f_M_letter rfl rfl ⟨by decide, by decide⟩ hl.1 (Nat.le_of_ble_eq_true rfl) d_M_read_21 (fun H locs hw => ?_)
        refine lv_if_ne (pc := 24) (tgt := 33) hx hb d_M_read_24 (by decide) (fun hc24 => ?_) (fun hc24 => ?_)
        · have hl1 : ltr (tp b) = true := bI_1 hc24
          refine lv_aload_n (pc := 33) hx hb d_M_read_33 rfl (lv_at hl 0 rfl) ?_
          refine lv_iload_n (pc := 34) hx hb d_M_read_34 rfl (lv_at hl 1 rfl) ?_
          refine g_calli (pc := 35) (as := [.int (nI b)]) (rest := []) hC hw (c_M_run l D g k tp tm1 sz1 _ wd1 wl1 tb (n := n) (a := b) h (by omega) hby) lm_M_run f_M_run rfl rfl rfl rfl ⟨by decide, by decide⟩ hl.1 (Nat.le_of_ble_eq_true rfl) d_M_read_35 (fun r u1 H locs hp hw => ?_)
          obtain ⟨e, wd2, q1, q2, q3, q4, rfl, rfl, q5⟩ := hp
          have hbe : b < e := by
            by_cases z : b = e
            · subst z; exact absurd hl1 (q4.resolve_left (by omega))
            · omega
          have q6 : e = n ∨ ¬ sgn (sm (tp e)) = true := by
            by_cases z : e = n
            · exact Or.inl z
            · right; rw [sgn_sm (hby e (by omega))]; exact q4.resolve_left z
          rw [scn_word (q := (fun i => sgn ((fun i => sm (tp i)) i))) hbe q2 (fun i x y => by show sgn (sm (tp i)) = true; rw [sgn_sm (hby i (by omega))]; exact q3 i x y) q6, List.map_cons] at h5
          have hln := congrArg List.length h5
          rw [List.length_append, List.length_cons] at hln
          have hmx := rdT_len (f := (fun i => sm (tp i))) h
          refine lv_istore_n (pc := 38) hx hb d_M_read_38 rfl hl (by decide) rfl (fun ls hl => ?_)
          have hl : lv_has ls 2 [(1, .int (nI e)), (0, .ref (g 0))] := hl
          refine lv_aload_n (pc := 39) hx hb d_M_read_39 rfl (lv_at hl 1 rfl) ?_
          refine lv_aload_n (pc := 40) hx hb d_M_read_40 rfl (lv_at hl 1 rfl) ?_
          refine mg_ct (pc := 41) hC hw d_M_read_41 ?_
          refine lv_iconst (pc := 44) (v := 1) hx hb d_M_read_44 (by decide) ?_
          refine g_callv (pc := 45) (as := [.int (nI (dn.length)), .int 1]) (rest := []) hC hw (c_M_note_y l D g k tp _ tm1 sz1 _ wd2 tb (n := e - b) (j := dn.length) (by omega) (by omega) (fun i hi => by rw [q5 i hi]; exact by_sm (hby _ (by omega)))) lm_M_note f_M_note rfl rfl rfl rfl ⟨by decide, by decide⟩ hl.1 (Nat.le_of_ble_eq_true rfl) d_M_read_45 (fun u1 H locs hp hw => ?_)
          obtain ⟨tm2, sz2, wd3, rfl, hwr⟩ := hp
          refine lv_aload_n (pc := 48) hx hb d_M_read_48 rfl (lv_at hl 1 rfl) ?_
          refine lv_dup (pc := 49) hx hb d_M_read_49 rfl ?_
          refine mg_ct (pc := 50) hC hw d_M_read_50 ?_
          refine lv_iconst (pc := 53) (v := nI 1) hx hb d_M_read_53 (by decide) ?_
          refine lv_iadd (pc := 54) hx hb d_M_read_54 ?_
          refine g_top (y := nI (dn.length + 1)) (nI_add _ _) ?_
          refine mp_ct (pc := 55) hC hw d_M_read_55 (fun H locs hw => ?_)
          have hw : gH D (mw g k) A _ (tp, (nI n), tm2, sz2, (nI (dn.length + 1)), wd3, (nI (e - b)), tb) H locs := hw
          refine lv_goto (pc := 58) (tgt := 7) hx hb d_M_read_58 (by decide) ?_
          have hs := stm_ext (w := wd2) (v := fun i => (fun i => sm (tp i)) (b + i)) (n := e - b) q5
          exact ih e tm2 sz2 wd3 _ (dn ++ [twd (fun i => sm (tp i)) (b, e)]) _ _ _ (by omega) (lv_sub hl [1, 0] rfl) (by rw [List.length_append, List.length_singleton]; exact hw) q2 (tok_push h4 (wrt_ext hwr hs.1 hs.2)) (by rw [← h5, List.append_assoc]; rfl)
        · refine lv_iinc (pc := 27) (k := 1) (v := nI (b + 1)) hx hb d_M_read_27 hl rfl (nI_i1 b) (by decide) rfl (fun ls hl => ?_)
          have hl : lv_has ls 2 [(1, .int (nI (b + 1))), (0, .ref (g 0))] := hl
          refine lv_goto (pc := 30) (tgt := 7) hx hb d_M_read_30 (by decide) ?_
          rw [show n - b = (n - (b + 1)) + 1 by omega, scn_skip (q := (fun i => sgn ((fun i => sm (tp i)) i))) (by show ¬ sgn (sm (tp b)) = true; rw [sgn_sm (hby b (by omega)), bI_0 hc24]; decide)] at h5
          exact ih (b + 1) tm1 sz1 wd1 wl1 dn _ _ _ (by omega) (lv_sub hl [1, 0] rfl) hw (by omega) h4 h5
  exact lp (n + 1) 0 tm sz wd wl [] _ _ _ (by omega) (lv_sub hl [1, 0] rfl) hw (Nat.zero_le _) tok_nil rfl
end
section
set_option maxHeartbeats 4000000 in
set_option maxRecDepth 100000 in
theorem c_M_sign (l : Launch) (D : va_G) (g : Nat → Nat) (k : Nat → ClassId) (tp : Nat → Int32) (tl : Int32) (tm : Nat → Int32) (sz : Nat → Int32) (wd : Nat → Int32) (wl : Int32) (tb : Nat → Int32) (x y : Int32) {ts : List Tm} (ht : tok ts tm sz) (hlen : ts.length ≤ 150) : gMi l y_M_sign (gW y_M_sign b_M_sign 3 (some .int)) (gR 1) D (mT k) (mw g k) [.ref (g 0), .int x, .int y] (tp, tl, tm, sz, (nI ts.length), wd, wl, tb) (fun r u => r = asg ts x y ∧ u = (tp, tl, tm, sz, (nI ts.length), wd, wl, tb)) := by
  rcases hasT_cases ts x hlen with ⟨hT, hk⟩ | ⟨j, T, hj, rfl, hj2, hT⟩
  · refine g_starti (by decide) (Nat.le_of_ble_eq_true rfl) ?_
    intro p ev s m args below meth cd A Q ls hC hQ hl hw
    have hx := hC.1.1
    have hb := hC.1.2.1
    have hl : lv_has ls 3 [(0, .ref (g 0)), (1, .int x), (2, .int y)] := hl
    refine lv_aload_n (pc := 0) hx hb d_M_sign_0 rfl (lv_at hl 0 rfl) ?_
    refine lv_iload_n (pc := 1) hx hb d_M_sign_1 rfl (lv_at hl 1 rfl) ?_
    refine g_calli (pc := 2) (as := [.int x]) (rest := []) hC hw (c_M_is_n l D g k tp tl tm sz _ wd wl tb hk) lm_M_is f_M_is rfl rfl rfl rfl ⟨by decide, by decide⟩ hl.1 (Nat.le_of_ble_eq_true rfl) d_M_sign_2 (fun r u1 H locs hp hw => ?_)
    obtain ⟨rfl, rfl⟩ := hp
    refine lv_if_eq (pc := 5) (tgt := 23) hx hb d_M_sign_5 (by decide) (fun hc5 => ?_) (fun hc5 => ?_)
    · refine lv_bipush (pc := 23) (v := (-2)) hx hb d_M_sign_23 (by decide) ?_
      exact hQ _ _ _ _ _ _ hw (rfl) (⟨asg_none hT, rfl⟩) d_M_sign_25
    · exact absurd rfl hc5
  · refine g_starti (by decide) (Nat.le_of_ble_eq_true rfl) ?_
    intro p ev s m args below meth cd A Q ls hC hQ hl hw
    have hx := hC.1.1
    have hb := hC.1.2.1
    have hl : lv_has ls 3 [(0, .ref (g 0)), (1, .int (nI j)), (2, .int y)] := hl
    obtain ⟨t1, t2, t3⟩ := ht j T hj2
    refine lv_aload_n (pc := 0) hx hb d_M_sign_0 rfl (lv_at hl 0 rfl) ?_
    refine lv_iload_n (pc := 1) hx hb d_M_sign_1 rfl (lv_at hl 1 rfl) ?_
    refine g_calli (pc := 2) (as := [.int (nI j)]) (rest := []) hC hw (c_M_is_y l D g k tp tl tm sz wd wl tb hj hlen) lm_M_is f_M_is rfl rfl rfl rfl ⟨by decide, by decide⟩ hl.1 (Nat.le_of_ble_eq_true rfl) d_M_sign_2 (fun r u1 H locs hp hw => ?_)
    obtain ⟨rfl, rfl⟩ := hp
    refine lv_if_eq (pc := 5) (tgt := 23) hx hb d_M_sign_5 (by decide) (fun hc5 => ?_) (fun hc5 => ?_)
    · exact absurd hc5 (by decide)
    · refine lv_iload_n (pc := 8) hx hb d_M_sign_8 rfl (lv_at hl 2 rfl) ?_
      refine lv_iconst (pc := 9) (v := (-1)) hx hb d_M_sign_9 (by decide) ?_
      refine lv_icmp_lt (pc := 10) (tgt := 23) hx hb d_M_sign_10 (by decide) (fun hc10 => ?_) (fun hc10 => ?_)
      · refine lv_bipush (pc := 23) (v := (-2)) hx hb d_M_sign_23 (by decide) ?_
        exact hQ _ _ _ _ _ _ hw (rfl) (⟨asg_lo hT hc10, rfl⟩) d_M_sign_25
      · refine lv_iload_n (pc := 13) hx hb d_M_sign_13 rfl (lv_at hl 2 rfl) ?_
        refine lv_aload_n (pc := 14) hx hb d_M_sign_14 rfl (lv_at hl 0 rfl) ?_
        refine mg_sz (pc := 15) hC hw d_M_sign_15 ?_
        refine lv_iload_n (pc := 18) hx hb d_M_sign_18 rfl (lv_at hl 1 rfl) ?_
        refine ml_sz (pc := 19) (i := j) (by omega) hC hw d_M_sign_19 ?_
        refine g_top (y := nI T.1) (t2) ?_
        refine lv_icmp_lt (pc := 20) (tgt := 26) hx hb d_M_sign_20 (by decide) (fun hc20 => ?_) (fun hc20 => ?_)
        · refine lv_iload_n (pc := 26) hx hb d_M_sign_26 rfl (lv_at hl 2 rfl) ?_
          refine lv_iconst (pc := 27) (v := (-1)) hx hb d_M_sign_27 (by decide) ?_
          refine lv_icmp_ne (pc := 28) (tgt := 40) hx hb d_M_sign_28 (by decide) (fun hc28 => ?_) (fun hc28 => ?_)
          · obtain ⟨z, hz, rfl⟩ := nI_of (ge0 hc10 hc28)
            have hz2 : z < T.1 := (nI_ltI hz (by omega)).mp hc20
            refine lv_aload_n (pc := 40) hx hb d_M_sign_40 rfl (lv_at hl 0 rfl) ?_
            refine mg_tm (pc := 41) hC hw d_M_sign_41 ?_
            refine lv_bipush (pc := 44) (v := nI 24) hx hb d_M_sign_44 (by decide) ?_
            refine lv_iload_n (pc := 46) hx hb d_M_sign_46 rfl (lv_at hl 1 rfl) ?_
            refine lv_imul (pc := 47) hx hb d_M_sign_47 ?_
            refine g_top (y := nI (24 * j)) (pk_mul _ _) ?_
            refine lv_iload_n (pc := 48) hx hb d_M_sign_48 rfl (lv_at hl 2 rfl) ?_
            refine lv_iadd (pc := 49) hx hb d_M_sign_49 ?_
            refine g_top (y := nI ((24 * j) + z)) (nI_add _ _) ?_
            refine ml_tm (pc := 50) (i := (24 * j) + z) (by omega) hC hw d_M_sign_50 ?_
            refine g_top (y := T.2 z) (t3 z hz2) ?_
            exact hQ _ _ _ _ _ _ hw (rfl) (⟨(congrArg T.2 (nI_clamp hz).symm).trans (asg_in hT hc10 (Int32.not_le.mpr hc20) hc28), rfl⟩) d_M_sign_51
          · refine lv_aload_n (pc := 31) hx hb d_M_sign_31 rfl (lv_at hl 0 rfl) ?_
            refine mg_sz (pc := 32) hC hw d_M_sign_32 ?_
            refine lv_iload_n (pc := 35) hx hb d_M_sign_35 rfl (lv_at hl 1 rfl) ?_
            refine ml_sz (pc := 36) (i := j) (by omega) hC hw d_M_sign_36 ?_
            refine g_top (y := nI T.1) (t2) ?_
            refine lv_goto (pc := 37) (tgt := 51) hx hb d_M_sign_37 (by decide) ?_
            exact hQ _ _ _ _ _ _ hw (rfl) (⟨asg_len hT hc10 (Int32.not_le.mpr hc20) hc28, rfl⟩) d_M_sign_51
        · refine lv_bipush (pc := 23) (v := (-2)) hx hb d_M_sign_23 (by decide) ?_
          exact hQ _ _ _ _ _ _ hw (rfl) (⟨asg_hi hT hc10 (Int32.not_lt.mp hc20), rfl⟩) d_M_sign_25
set_option maxHeartbeats 4000000 in
set_option maxRecDepth 100000 in
theorem c_M_order (l : Launch) (D : va_G) (g : Nat → Nat) (k : Nat → ClassId) (tp : Nat → Int32) (tl : Int32) (tm sz : Nat → Int32) (ct : Int32) (wd : Nat → Int32) (wl : Int32) (tb : Nat → Int32) {a b : Nat} {T V : Tm} (ha : a < 151) (hb0 : b < 151) (hT : tat tm sz a T) (hV : tat tm sz b V) : gMi l y_M_order (gW y_M_order b_M_order 4 (some .int)) (gR 0) D (mT k) (mw g k) [.ref (g 0), .int (nI a), .int (nI b)] (tp, tl, tm, sz, ct, wd, wl, tb) (fun r u => r = od T V ∧ u = (tp, tl, tm, sz, ct, wd, wl, tb)) := by
  refine g_starti (by decide) (Nat.le_of_ble_eq_true rfl) ?_
  intro p ev s m args below meth cd A Q ls hC hQ hl hw
  have hx := hC.1.1
  have hb := hC.1.2.1
  have hl : lv_has ls 4 [(0, .ref (g 0)), (1, .int (nI a)), (2, .int (nI b))] := hl
  obtain ⟨t1, t2, t3⟩ := hT
  obtain ⟨v1, v2, v3⟩ := hV
  refine lv_iconst (pc := 0) (v := nI 0) hx hb d_M_order_0 (by decide) ?_
  refine lv_istore_n (pc := 1) hx hb d_M_order_1 rfl hl (by decide) rfl (fun ls hl => ?_)
  have hl : lv_has ls 4 [(3, .int (nI 0)), (0, .ref (g 0)), (1, .int (nI a)), (2, .int (nI b))] := hl
  have lp : ∀ (fu : Nat) (i : Nat) (ls : Array Slot) (H : Heap) (locs : List Loc), min T.1 V.1 - i < fu → lv_has ls 4 [(0, .ref (g 0)), (1, .int (nI a)), (2, .int (nI b)), (3, .int (nI i))] → gH D (mw g k) A s.heap (tp, tl, tm, sz, ct, wd, wl, tb) H locs → (i ≤ min T.1 V.1) → (odr T.2 V.2 T.1 V.1 (min T.1 V.1 - i) i = od T V) → W p l ev (gR 0) s m args below meth cd H locs 0 0 Q (F0 m 2 ls []) := by
    intro fu
    induction fu with
    | zero => intro i ls H locs hn hl hw hi ho; exact absurd hn (Nat.not_lt_zero _)
    | succ fu ih =>
      intro i ls H locs hn hl hw hi ho
      refine lv_iload_n (pc := 2) hx hb d_M_order_2 rfl (lv_at hl 3 rfl) ?_
      refine lv_aload_n (pc := 3) hx hb d_M_order_3 rfl (lv_at hl 0 rfl) ?_
      refine mg_sz (pc := 4) hC hw d_M_order_4 ?_
      refine lv_iload_n (pc := 7) hx hb d_M_order_7 rfl (lv_at hl 1 rfl) ?_
      refine ml_sz (pc := 8) (i := a) (by omega) hC hw d_M_order_8 ?_
      refine g_top (y := nI T.1) (t2) ?_
      refine nc_ge (pc := 9) (tgt := 84) hx hb d_M_order_9 (by decide) (by omega) (by omega) (fun hc9 => ?_) (fun hc9 => ?_)
      · have ei : i = min T.1 V.1 := by omega
        subst ei
        rw [Nat.sub_self] at ho
        unfold odr at ho
        refine lv_aload_n (pc := 84) hx hb d_M_order_84 rfl (lv_at hl 0 rfl) ?_
        refine mg_sz (pc := 85) hC hw d_M_order_85 ?_
        refine lv_iload_n (pc := 88) hx hb d_M_order_88 rfl (lv_at hl 1 rfl) ?_
        refine ml_sz (pc := 89) (i := a) (by omega) hC hw d_M_order_89 ?_
        refine g_top (y := nI T.1) (t2) ?_
        refine lv_aload_n (pc := 90) hx hb d_M_order_90 rfl (lv_at hl 0 rfl) ?_
        refine mg_sz (pc := 91) hC hw d_M_order_91 ?_
        refine lv_iload_n (pc := 94) hx hb d_M_order_94 rfl (lv_at hl 2 rfl) ?_
        refine ml_sz (pc := 95) (i := b) (by omega) hC hw d_M_order_95 ?_
        refine g_top (y := nI V.1) (v2) ?_
        refine nc_ge (pc := 96) (tgt := 103) hx hb d_M_order_96 (by decide) (by omega) (by omega) (fun hc96 => ?_) (fun hc96 => ?_)
        · refine lv_aload_n (pc := 103) hx hb d_M_order_103 rfl (lv_at hl 0 rfl) ?_
          refine mg_sz (pc := 104) hC hw d_M_order_104 ?_
          refine lv_iload_n (pc := 107) hx hb d_M_order_107 rfl (lv_at hl 1 rfl) ?_
          refine ml_sz (pc := 108) (i := a) (by omega) hC hw d_M_order_108 ?_
          refine g_top (y := nI T.1) (t2) ?_
          refine lv_aload_n (pc := 109) hx hb d_M_order_109 rfl (lv_at hl 0 rfl) ?_
          refine mg_sz (pc := 110) hC hw d_M_order_110 ?_
          refine lv_iload_n (pc := 113) hx hb d_M_order_113 rfl (lv_at hl 2 rfl) ?_
          refine ml_sz (pc := 114) (i := b) (by omega) hC hw d_M_order_114 ?_
          refine g_top (y := nI V.1) (v2) ?_
          refine nc_le (pc := 115) (tgt := 122) hx hb d_M_order_115 (by decide) (by omega) (by omega) (fun hc115 => ?_) (fun hc115 => ?_)
          · refine lv_iconst (pc := 122) (v := 0) hx hb d_M_order_122 (by decide) ?_
            exact hQ _ _ _ _ _ _ hw (rfl) (⟨by rw [← ho, if_neg (by omega), if_neg (by omega)], rfl⟩) d_M_order_123
          · refine lv_iconst (pc := 118) (v := 1) hx hb d_M_order_118 (by decide) ?_
            refine lv_goto (pc := 119) (tgt := 123) hx hb d_M_order_119 (by decide) ?_
            exact hQ _ _ _ _ _ _ hw (rfl) (⟨by rw [← ho, if_neg (by omega), if_pos (by omega)], rfl⟩) d_M_order_123
        · refine lv_iconst (pc := 99) (v := (-1)) hx hb d_M_order_99 (by decide) ?_
          refine lv_goto (pc := 100) (tgt := 123) hx hb d_M_order_100 (by decide) ?_
          exact hQ _ _ _ _ _ _ hw (rfl) (⟨by rw [← ho, if_pos hc96], rfl⟩) d_M_order_123
      · refine lv_iload_n (pc := 12) hx hb d_M_order_12 rfl (lv_at hl 3 rfl) ?_
        refine lv_aload_n (pc := 13) hx hb d_M_order_13 rfl (lv_at hl 0 rfl) ?_
        refine mg_sz (pc := 14) hC hw d_M_order_14 ?_
        refine lv_iload_n (pc := 17) hx hb d_M_order_17 rfl (lv_at hl 2 rfl) ?_
        refine ml_sz (pc := 18) (i := b) (by omega) hC hw d_M_order_18 ?_
        refine g_top (y := nI V.1) (v2) ?_
        refine nc_ge (pc := 19) (tgt := 84) hx hb d_M_order_19 (by decide) (by omega) (by omega) (fun hc19 => ?_) (fun hc19 => ?_)
        · have ei : i = min T.1 V.1 := by omega
          subst ei
          rw [Nat.sub_self] at ho
          unfold odr at ho
          refine lv_aload_n (pc := 84) hx hb d_M_order_84 rfl (lv_at hl 0 rfl) ?_
          refine mg_sz (pc := 85) hC hw d_M_order_85 ?_
          refine lv_iload_n (pc := 88) hx hb d_M_order_88 rfl (lv_at hl 1 rfl) ?_
          refine ml_sz (pc := 89) (i := a) (by omega) hC hw d_M_order_89 ?_
          refine g_top (y := nI T.1) (t2) ?_
          refine lv_aload_n (pc := 90) hx hb d_M_order_90 rfl (lv_at hl 0 rfl) ?_
          refine mg_sz (pc := 91) hC hw d_M_order_91 ?_
          refine lv_iload_n (pc := 94) hx hb d_M_order_94 rfl (lv_at hl 2 rfl) ?_
          refine ml_sz (pc := 95) (i := b) (by omega) hC hw d_M_order_95 ?_
          refine g_top (y := nI V.1) (v2) ?_
          refine nc_ge (pc := 96) (tgt := 103) hx hb d_M_order_96 (by decide) (by omega) (by omega) (fun hc96 => ?_) (fun hc96 => ?_)
          · refine lv_aload_n (pc := 103) hx hb d_M_order_103 rfl (lv_at hl 0 rfl) ?_
            refine mg_sz (pc := 104) hC hw d_M_order_104 ?_
            refine lv_iload_n (pc := 107) hx hb d_M_order_107 rfl (lv_at hl 1 rfl) ?_
            refine ml_sz (pc := 108) (i := a) (by omega) hC hw d_M_order_108 ?_
            refine g_top (y := nI T.1) (t2) ?_
            refine lv_aload_n (pc := 109) hx hb d_M_order_109 rfl (lv_at hl 0 rfl) ?_
            refine mg_sz (pc := 110) hC hw d_M_order_110 ?_
            refine lv_iload_n (pc := 113) hx hb d_M_order_113 rfl (lv_at hl 2 rfl) ?_
            refine ml_sz (pc := 114) (i := b) (by omega) hC hw d_M_order_114 ?_
            refine g_top (y := nI V.1) (v2) ?_
            refine nc_le (pc := 115) (tgt := 122) hx hb d_M_order_115 (by decide) (by omega) (by omega) (fun hc115 => ?_) (fun hc115 => ?_)
            · refine lv_iconst (pc := 122) (v := 0) hx hb d_M_order_122 (by decide) ?_
              exact hQ _ _ _ _ _ _ hw (rfl) (⟨by rw [← ho, if_neg (by omega), if_neg (by omega)], rfl⟩) d_M_order_123
            · refine lv_iconst (pc := 118) (v := 1) hx hb d_M_order_118 (by decide) ?_
              refine lv_goto (pc := 119) (tgt := 123) hx hb d_M_order_119 (by decide) ?_
              exact hQ _ _ _ _ _ _ hw (rfl) (⟨by rw [← ho, if_neg (by omega), if_pos (by omega)], rfl⟩) d_M_order_123
          · refine lv_iconst (pc := 99) (v := (-1)) hx hb d_M_order_99 (by decide) ?_
            refine lv_goto (pc := 100) (tgt := 123) hx hb d_M_order_100 (by decide) ?_
            exact hQ _ _ _ _ _ _ hw (rfl) (⟨by rw [← ho, if_pos hc96], rfl⟩) d_M_order_123
        · have ei : min T.1 V.1 - i = (min T.1 V.1 - (i + 1)) + 1 := by omega
          rw [ei] at ho
          refine lv_aload_n (pc := 22) hx hb d_M_order_22 rfl (lv_at hl 0 rfl) ?_
          refine mg_tm (pc := 23) hC hw d_M_order_23 ?_
          refine lv_bipush (pc := 26) (v := nI 24) hx hb d_M_order_26 (by decide) ?_
          refine lv_iload_n (pc := 28) hx hb d_M_order_28 rfl (lv_at hl 1 rfl) ?_
          refine lv_imul (pc := 29) hx hb d_M_order_29 ?_
          refine g_top (y := nI (24 * a)) (pk_mul _ _) ?_
          refine lv_iload_n (pc := 30) hx hb d_M_order_30 rfl (lv_at hl 3 rfl) ?_
          refine lv_iadd (pc := 31) hx hb d_M_order_31 ?_
          refine g_top (y := nI ((24 * a) + i)) (nI_add _ _) ?_
          refine ml_tm (pc := 32) (i := (24 * a) + i) (by omega) hC hw d_M_order_32 ?_
          refine g_top (y := T.2 i) (t3 i (by omega)) ?_
          refine lv_aload_n (pc := 33) hx hb d_M_order_33 rfl (lv_at hl 0 rfl) ?_
          refine mg_tm (pc := 34) hC hw d_M_order_34 ?_
          refine lv_bipush (pc := 37) (v := nI 24) hx hb d_M_order_37 (by decide) ?_
          refine lv_iload_n (pc := 39) hx hb d_M_order_39 rfl (lv_at hl 2 rfl) ?_
          refine lv_imul (pc := 40) hx hb d_M_order_40 ?_
          refine g_top (y := nI (24 * b)) (pk_mul _ _) ?_
          refine lv_iload_n (pc := 41) hx hb d_M_order_41 rfl (lv_at hl 3 rfl) ?_
          refine lv_iadd (pc := 42) hx hb d_M_order_42 ?_
          refine g_top (y := nI ((24 * b) + i)) (nI_add _ _) ?_
          refine ml_tm (pc := 43) (i := (24 * b) + i) (by omega) hC hw d_M_order_43 ?_
          refine g_top (y := V.2 i) (v3 i (by omega)) ?_
          refine lv_icmp_eq (pc := 44) (tgt := 78) hx hb d_M_order_44 (by decide) (fun hc44 => ?_) (fun hc44 => ?_)
          · refine lv_iinc (pc := 78) (k := 3) (v := nI (i + 1)) hx hb d_M_order_78 hl rfl (nI_i1 i) (by decide) rfl (fun ls hl => ?_)
            have hl : lv_has ls 4 [(3, .int (nI (i + 1))), (0, .ref (g 0)), (1, .int (nI a)), (2, .int (nI b))] := hl
            refine lv_goto (pc := 81) (tgt := 2) hx hb d_M_order_81 (by decide) ?_
            refine ih (i + 1) _ _ _ (by omega) (lv_sub hl [1, 2, 3, 0] rfl) hw (by omega) ?_
            rw [← ho]
            show _ = if T.2 i = V.2 i then _ else _
            rw [if_pos hc44]
          · refine lv_aload_n (pc := 47) hx hb d_M_order_47 rfl (lv_at hl 0 rfl) ?_
            refine mg_tm (pc := 48) hC hw d_M_order_48 ?_
            refine lv_bipush (pc := 51) (v := nI 24) hx hb d_M_order_51 (by decide) ?_
            refine lv_iload_n (pc := 53) hx hb d_M_order_53 rfl (lv_at hl 1 rfl) ?_
            refine lv_imul (pc := 54) hx hb d_M_order_54 ?_
            refine g_top (y := nI (24 * a)) (pk_mul _ _) ?_
            refine lv_iload_n (pc := 55) hx hb d_M_order_55 rfl (lv_at hl 3 rfl) ?_
            refine lv_iadd (pc := 56) hx hb d_M_order_56 ?_
            refine g_top (y := nI ((24 * a) + i)) (nI_add _ _) ?_
            refine ml_tm (pc := 57) (i := (24 * a) + i) (by omega) hC hw d_M_order_57 ?_
            refine g_top (y := T.2 i) (t3 i (by omega)) ?_
            refine lv_aload_n (pc := 58) hx hb d_M_order_58 rfl (lv_at hl 0 rfl) ?_
            refine mg_tm (pc := 59) hC hw d_M_order_59 ?_
            refine lv_bipush (pc := 62) (v := nI 24) hx hb d_M_order_62 (by decide) ?_
            refine lv_iload_n (pc := 64) hx hb d_M_order_64 rfl (lv_at hl 2 rfl) ?_
            refine lv_imul (pc := 65) hx hb d_M_order_65 ?_
            refine g_top (y := nI (24 * b)) (pk_mul _ _) ?_
            refine lv_iload_n (pc := 66) hx hb d_M_order_66 rfl (lv_at hl 3 rfl) ?_
            refine lv_iadd (pc := 67) hx hb d_M_order_67 ?_
            refine g_top (y := nI ((24 * b) + i)) (nI_add _ _) ?_
            refine ml_tm (pc := 68) (i := (24 * b) + i) (by omega) hC hw d_M_order_68 ?_
            refine g_top (y := V.2 i) (v3 i (by omega)) ?_
            refine lv_icmp_ge (pc := 69) (tgt := 76) hx hb d_M_order_69 (by decide) (fun hc69 => ?_) (fun hc69 => ?_)
            · refine lv_iconst (pc := 76) (v := 1) hx hb d_M_order_76 (by decide) ?_
              exact hQ _ _ _ _ _ _ hw (rfl) (⟨by rw [← ho]; show _ = if T.2 i = V.2 i then _ else _; rw [if_neg hc44, if_neg (Int32.not_lt.mpr hc69)], rfl⟩) d_M_order_77
            · refine lv_iconst (pc := 72) (v := (-1)) hx hb d_M_order_72 (by decide) ?_
              refine lv_goto (pc := 73) (tgt := 77) hx hb d_M_order_73 (by decide) ?_
              exact hQ _ _ _ _ _ _ hw (rfl) (⟨by rw [← ho]; show _ = if T.2 i = V.2 i then _ else _; rw [if_neg hc44, if_pos (Int32.not_le.mp hc69)], rfl⟩) d_M_order_77
  exact lp (min T.1 V.1 + 1) 0 _ _ _ (by omega) (lv_sub hl [1, 2, 3, 0] rfl) hw (Nat.zero_le _) rfl
set_option maxHeartbeats 4000000 in
set_option maxRecDepth 100000 in
theorem c_M_first (l : Launch) (D : va_G) (g : Nat → Nat) (k : Nat → ClassId) (tp : Nat → Int32) (tl : Int32) (tm : Nat → Int32) (sz : Nat → Int32) (wd : Nat → Int32) (wl : Int32) (tb : Nat → Int32) (x : Int32) {ts : List Tm} (ht : tok ts tm sz) (hlen : ts.length ≤ 150) : gMi l y_M_first (gW y_M_first b_M_first 3 (some .int)) (gR 1) D (mT k) (mw g k) [.ref (g 0), .int x] (tp, tl, tm, sz, (nI ts.length), wd, wl, tb) (fun r u => r = afs ts x ∧ u = (tp, tl, tm, sz, (nI ts.length), wd, wl, tb)) := by
  rcases hasT_cases ts x hlen with ⟨hT, hk⟩ | ⟨a, T, ha, rfl, ha2, hT⟩
  · refine g_starti (by decide) (Nat.le_of_ble_eq_true rfl) ?_
    intro p ev s m args below meth cd A Q ls hC hQ hl hw
    have hx := hC.1.1
    have hb := hC.1.2.1
    have hl : lv_has ls 3 [(0, .ref (g 0)), (1, .int x)] := hl
    refine lv_aload_n (pc := 0) hx hb d_M_first_0 rfl (lv_at hl 0 rfl) ?_
    refine lv_iload_n (pc := 1) hx hb d_M_first_1 rfl (lv_at hl 1 rfl) ?_
    refine g_calli (pc := 2) (as := [.int x]) (rest := []) hC hw (c_M_is_n l D g k tp tl tm sz _ wd wl tb hk) lm_M_is f_M_is rfl rfl rfl rfl ⟨by decide, by decide⟩ hl.1 (Nat.le_of_ble_eq_true rfl) d_M_first_2 (fun r u1 H locs hp hw => ?_)
    obtain ⟨rfl, rfl⟩ := hp
    refine lv_if_ne (pc := 5) (tgt := 11) hx hb d_M_first_5 (by decide) (fun hc5 => ?_) (fun hc5 => ?_)
    · exact absurd rfl hc5
    · refine lv_bipush (pc := 8) (v := (-2)) hx hb d_M_first_8 (by decide) ?_
      exact hQ _ _ _ _ _ _ hw (rfl) (⟨afs_none hT, rfl⟩) d_M_first_10
  · refine g_starti (by decide) (Nat.le_of_ble_eq_true rfl) ?_
    intro p ev s m args below meth cd A Q ls hC hQ hl hw
    have hx := hC.1.1
    have hb := hC.1.2.1
    have hl : lv_has ls 3 [(0, .ref (g 0)), (1, .int (nI a))] := hl
    refine lv_aload_n (pc := 0) hx hb d_M_first_0 rfl (lv_at hl 0 rfl) ?_
    refine lv_iload_n (pc := 1) hx hb d_M_first_1 rfl (lv_at hl 1 rfl) ?_
    refine g_calli (pc := 2) (as := [.int (nI a)]) (rest := []) hC hw (c_M_is_y l D g k tp tl tm sz wd wl tb ha hlen) lm_M_is f_M_is rfl rfl rfl rfl ⟨by decide, by decide⟩ hl.1 (Nat.le_of_ble_eq_true rfl) d_M_first_2 (fun r u1 H locs hp hw => ?_)
    obtain ⟨rfl, rfl⟩ := hp
    refine lv_if_ne (pc := 5) (tgt := 11) hx hb d_M_first_5 (by decide) (fun hc5 => ?_) (fun hc5 => ?_)
    · refine lv_iconst (pc := 11) (v := nI 0) hx hb d_M_first_11 (by decide) ?_
      refine lv_istore_n (pc := 12) hx hb d_M_first_12 rfl hl (by decide) rfl (fun ls hl => ?_)
      have hl : lv_has ls 3 [(2, .int (nI 0)), (0, .ref (g 0)), (1, .int (nI a))] := hl
      have lp : ∀ (fu : Nat) (j : Nat) (ls : Array Slot) (H : Heap) (locs : List Loc), a - j < fu → lv_has ls 3 [(0, .ref (g 0)), (1, .int (nI a)), (2, .int (nI j))] → gH D (mw g k) A s.heap (tp, tl, tm, sz, (nI ts.length), wd, wl, tb) H locs → (j ≤ a) → (fsr ts T (a - j) j = fst ts T a) → W p l ev (gR 1) s m args below meth cd H locs 0 0 Q (F0 m 13 ls []) := by
        intro fu
        induction fu with
        | zero => intro j ls H locs hn hl hw hj ho; exact absurd hn (Nat.not_lt_zero _)
        | succ fu ih =>
          intro j ls H locs hn hl hw hj ho
          have hU : ts[j]? = some ts[j] := List.getElem?_eq_getElem (by omega)
          refine lv_aload_n (pc := 13) hx hb d_M_first_13 rfl (lv_at hl 0 rfl) ?_
          refine lv_iload_n (pc := 14) hx hb d_M_first_14 rfl (lv_at hl 2 rfl) ?_
          refine lv_iload_n (pc := 15) hx hb d_M_first_15 rfl (lv_at hl 1 rfl) ?_
          refine g_calli (pc := 16) (as := [.int (nI j), .int (nI a)]) (rest := []) hC hw (c_M_order l D g k tp tl tm sz _ wd wl tb (a := j) (b := a) (by omega) (by omega) (ht j _ hU) (ht a _ ha2)) lm_M_order f_M_order rfl rfl rfl rfl ⟨by decide, by decide⟩ hl.1 (Nat.le_of_ble_eq_true rfl) d_M_first_16 (fun r u1 H locs hp hw => ?_)
          obtain ⟨rfl, rfl⟩ := hp
          refine lv_if_eq (pc := 19) (tgt := 28) hx hb d_M_first_19 (by decide) (fun hc19 => ?_) (fun hc19 => ?_)
          · have hf : fst ts T a = j := by
              by_cases z : j = a
              · rw [← ho, z, Nat.sub_self]; rfl
              · rw [← ho, show a - j = (a - (j + 1)) + 1 by omega]; exact fsr_y hU hc19
            refine lv_iload_n (pc := 28) hx hb d_M_first_28 rfl (lv_at hl 2 rfl) ?_
            exact hQ _ _ _ _ _ _ hw (rfl) (⟨by rw [← afs_in hT (by omega), hf], rfl⟩) d_M_first_29
          · have hja : j < a := by
              by_cases z : j = a
              · subst z; rw [Option.some.inj (hU.symm.trans ha2)] at hc19; exact absurd (od_self T) hc19
              · omega
            rw [show a - j = (a - (j + 1)) + 1 by omega, fsr_n hU hc19] at ho
            refine lv_iinc (pc := 22) (k := 2) (v := nI (j + 1)) hx hb d_M_first_22 hl rfl (nI_i1 j) (by decide) rfl (fun ls hl => ?_)
            have hl : lv_has ls 3 [(2, .int (nI (j + 1))), (0, .ref (g 0)), (1, .int (nI a))] := hl
            refine lv_goto (pc := 25) (tgt := 13) hx hb d_M_first_25 (by decide) ?_
            exact ih (j + 1) _ _ _ (by omega) (lv_sub hl [1, 2, 0] rfl) hw (by omega) ho
      exact lp (a + 1) 0 _ _ _ (by omega) (lv_sub hl [1, 2, 0] rfl) hw (Nat.zero_le _) rfl
    · exact absurd hc5 (by decide)
set_option maxHeartbeats 4000000 in
set_option maxRecDepth 100000 in
theorem c_M_different (l : Launch) (D : va_G) (g : Nat → Nat) (k : Nat → ClassId) (tp : Nat → Int32) (tl : Int32) (tm : Nat → Int32) (sz : Nat → Int32) (wd : Nat → Int32) (wl : Int32) (tb : Nat → Int32) {ts : List Tm} (ht : tok ts tm sz) (hlen : ts.length ≤ 150) : gMi l y_M_different (gW y_M_different b_M_different 3 (some .int)) (gR 2) D (mT k) (mw g k) [.ref (g 0)] (tp, tl, tm, sz, (nI ts.length), wd, wl, tb) (fun r u => r = nI (dct ts ts.length) ∧ u = (tp, tl, tm, sz, (nI ts.length), wd, wl, tb)) := by
  refine g_starti (by decide) (Nat.le_of_ble_eq_true rfl) ?_
  intro p ev s m args below meth cd A Q ls hC hQ hl hw
  have hx := hC.1.1
  have hb := hC.1.2.1
  have hl : lv_has ls 3 [(0, .ref (g 0))] := hl
  refine lv_iconst (pc := 0) (v := nI 0) hx hb d_M_different_0 (by decide) ?_
  refine lv_istore_n (pc := 1) hx hb d_M_different_1 rfl hl (by decide) rfl (fun ls hl => ?_)
  have hl : lv_has ls 3 [(1, .int (nI 0)), (0, .ref (g 0))] := hl
  refine lv_iconst (pc := 2) (v := nI 0) hx hb d_M_different_2 (by decide) ?_
  refine lv_istore_n (pc := 3) hx hb d_M_different_3 rfl hl (by decide) rfl (fun ls hl => ?_)
  have hl : lv_has ls 3 [(2, .int (nI 0)), (1, .int (nI 0)), (0, .ref (g 0))] := hl
  have lp : ∀ (fu : Nat) (a : Nat) (ls : Array Slot) (H : Heap) (locs : List Loc), ts.length - a < fu → lv_has ls 3 [(0, .ref (g 0)), (1, .int (nI (dct ts a))), (2, .int (nI a))] → gH D (mw g k) A s.heap (tp, tl, tm, sz, (nI ts.length), wd, wl, tb) H locs → (a ≤ ts.length) → W p l ev (gR 2) s m args below meth cd H locs 0 0 Q (F0 m 4 ls []) := by
    intro fu
    induction fu with
    | zero => intro a ls H locs hn hl hw ha; exact absurd hn (Nat.not_lt_zero _)
    | succ fu ih =>
      intro a ls H locs hn hl hw ha
      refine lv_iload_n (pc := 4) hx hb d_M_different_4 rfl (lv_at hl 2 rfl) ?_
      refine lv_aload_n (pc := 5) hx hb d_M_different_5 rfl (lv_at hl 0 rfl) ?_
      refine mg_ct (pc := 6) hC hw d_M_different_6 ?_
      refine nc_ge (pc := 9) (tgt := 35) hx hb d_M_different_9 (by decide) (by omega) (by omega) (fun hc9 => ?_) (fun hc9 => ?_)
      · have ei : a = ts.length := by omega
        subst ei
        refine lv_iload_n (pc := 35) hx hb d_M_different_35 rfl (lv_at hl 1 rfl) ?_
        exact hQ _ _ _ _ _ _ hw (rfl) (⟨rfl, rfl⟩) d_M_different_36
      · have hT : ts[a]? = some ts[a] := List.getElem?_eq_getElem (by omega)
        have hd := dct_le ts a
        have hfs : fst ts ts[a] a ≤ 0 + a := fsr_le a 0 (by omega)
        have haf : afs ts (nI a) = nI (fst ts ts[a] a) := (afs_in ((hasT_in (by omega)).trans hT) (by omega)).symm
        refine lv_iload_n (pc := 12) hx hb d_M_different_12 rfl (lv_at hl 1 rfl) ?_
        refine lv_aload_n (pc := 13) hx hb d_M_different_13 rfl (lv_at hl 0 rfl) ?_
        refine lv_iload_n (pc := 14) hx hb d_M_different_14 rfl (lv_at hl 2 rfl) ?_
        refine g_calli (pc := 15) (as := [.int (nI a)]) (rest := [.int (nI (dct ts a))]) hC hw (c_M_first l D g k tp tl tm sz wd wl tb (nI a) ht hlen) lm_M_first f_M_first rfl rfl rfl rfl ⟨by decide, by decide⟩ hl.1 (Nat.le_of_ble_eq_true rfl) d_M_different_15 (fun r u1 H locs hp hw => ?_)
        obtain ⟨rfl, rfl⟩ := hp
        refine g_top (y := nI (fst ts ts[a] a)) haf ?_
        refine lv_iload_n (pc := 18) hx hb d_M_different_18 rfl (lv_at hl 2 rfl) ?_
        refine nc_ne (pc := 19) (tgt := 26) hx hb d_M_different_19 (by decide) (by omega) (by omega) (fun hc19 => ?_) (fun hc19 => ?_)
        · refine lv_iconst (pc := 26) (v := nI 0) hx hb d_M_different_26 (by decide) ?_
          refine lv_iadd (pc := 27) hx hb d_M_different_27 ?_
          refine g_top (y := nI ((dct ts a) + 0)) (nI_add _ _) ?_
          refine lv_istore_n (pc := 28) hx hb d_M_different_28 rfl hl (by decide) rfl (fun ls hl => ?_)
          have hl : lv_has ls 3 [(1, .int (nI ((dct ts a) + 0))), (0, .ref (g 0)), (2, .int (nI a))] := hl
          refine lv_iinc (pc := 29) (k := 2) (v := nI (a + 1)) hx hb d_M_different_29 hl rfl (nI_i1 a) (by decide) rfl (fun ls hl => ?_)
          have hl : lv_has ls 3 [(2, .int (nI (a + 1))), (1, .int (nI ((dct ts a) + 0))), (0, .ref (g 0))] := hl
          refine lv_goto (pc := 32) (tgt := 4) hx hb d_M_different_32 (by decide) ?_
          exact ih (a + 1) _ _ _ (by omega) (by rw [dct_n hT hc19]; exact (lv_sub hl [2, 1, 0] rfl)) hw (by omega)
        · refine lv_iconst (pc := 22) (v := nI 1) hx hb d_M_different_22 (by decide) ?_
          refine lv_goto (pc := 23) (tgt := 27) hx hb d_M_different_23 (by decide) ?_
          refine lv_iadd (pc := 27) hx hb d_M_different_27 ?_
          refine g_top (y := nI ((dct ts a) + 1)) (nI_add _ _) ?_
          refine lv_istore_n (pc := 28) hx hb d_M_different_28 rfl hl (by decide) rfl (fun ls hl => ?_)
          have hl : lv_has ls 3 [(1, .int (nI ((dct ts a) + 1))), (0, .ref (g 0)), (2, .int (nI a))] := hl
          refine lv_iinc (pc := 29) (k := 2) (v := nI (a + 1)) hx hb d_M_different_29 hl rfl (nI_i1 a) (by decide) rfl (fun ls hl => ?_)
          have hl : lv_has ls 3 [(2, .int (nI (a + 1))), (1, .int (nI ((dct ts a) + 1))), (0, .ref (g 0))] := hl
          refine lv_goto (pc := 32) (tgt := 4) hx hb d_M_different_32 (by decide) ?_
          exact ih (a + 1) _ _ _ (by omega) (by rw [dct_y hT hc19]; exact (lv_sub hl [2, 1, 0] rfl)) hw (by omega)
  exact lp (ts.length + 1) 0 _ _ _ (by omega) (lv_sub hl [2, 1, 0] rfl) hw (Nat.zero_le _)
set_option maxHeartbeats 4000000 in
set_option maxRecDepth 100000 in
theorem c_M_compare (l : Launch) (D : va_G) (g : Nat → Nat) (k : Nat → ClassId) (tp : Nat → Int32) (tl : Int32) (tm : Nat → Int32) (sz : Nat → Int32) (wd : Nat → Int32) (wl : Int32) (tb : Nat → Int32) (x y : Int32) {ts : List Tm} (ht : tok ts tm sz) (hlen : ts.length ≤ 150) : gMi l y_M_compare (gW y_M_compare b_M_compare 3 (some .int)) (gR 1) D (mT k) (mw g k) [.ref (g 0), .int x, .int y] (tp, tl, tm, sz, (nI ts.length), wd, wl, tb) (fun r u => r = acm ts x y ∧ u = (tp, tl, tm, sz, (nI ts.length), wd, wl, tb)) := by
  rcases hasT_cases ts x hlen with ⟨hT, hk⟩ | ⟨j, T, hj, rfl, hj2, hT⟩
  · refine g_starti (by decide) (Nat.le_of_ble_eq_true rfl) ?_
    intro p ev s m args below meth cd A Q ls hC hQ hl hw
    have hx := hC.1.1
    have hb := hC.1.2.1
    have hl : lv_has ls 3 [(0, .ref (g 0)), (1, .int x), (2, .int y)] := hl
    refine lv_aload_n (pc := 0) hx hb d_M_compare_0 rfl (lv_at hl 0 rfl) ?_
    refine lv_iload_n (pc := 1) hx hb d_M_compare_1 rfl (lv_at hl 1 rfl) ?_
    refine g_calli (pc := 2) (as := [.int x]) (rest := []) hC hw (c_M_is_n l D g k tp tl tm sz _ wd wl tb hk) lm_M_is f_M_is rfl rfl rfl rfl ⟨by decide, by decide⟩ hl.1 (Nat.le_of_ble_eq_true rfl) d_M_compare_2 (fun r u1 H locs hp hw => ?_)
    obtain ⟨rfl, rfl⟩ := hp
    refine lv_if_eq (pc := 5) (tgt := 25) hx hb d_M_compare_5 (by decide) (fun hc5 => ?_) (fun hc5 => ?_)
    · refine lv_bipush (pc := 25) (v := (-2)) hx hb d_M_compare_25 (by decide) ?_
      exact hQ _ _ _ _ _ _ hw (rfl) (⟨acm_n1 hT, rfl⟩) d_M_compare_27
    · exact absurd rfl hc5
  · rcases hasT_cases ts y hlen with ⟨hV, hk⟩ | ⟨z, V, hz, rfl, hz2, hV⟩
    · refine g_starti (by decide) (Nat.le_of_ble_eq_true rfl) ?_
      intro p ev s m args below meth cd A Q ls hC hQ hl hw
      have hx := hC.1.1
      have hb := hC.1.2.1
      have hl : lv_has ls 3 [(0, .ref (g 0)), (1, .int (nI j)), (2, .int y)] := hl
      refine lv_aload_n (pc := 0) hx hb d_M_compare_0 rfl (lv_at hl 0 rfl) ?_
      refine lv_iload_n (pc := 1) hx hb d_M_compare_1 rfl (lv_at hl 1 rfl) ?_
      refine g_calli (pc := 2) (as := [.int (nI j)]) (rest := []) hC hw (c_M_is_y l D g k tp tl tm sz wd wl tb hj hlen) lm_M_is f_M_is rfl rfl rfl rfl ⟨by decide, by decide⟩ hl.1 (Nat.le_of_ble_eq_true rfl) d_M_compare_2 (fun r u1 H locs hp hw => ?_)
      obtain ⟨rfl, rfl⟩ := hp
      refine lv_if_eq (pc := 5) (tgt := 25) hx hb d_M_compare_5 (by decide) (fun hc5 => ?_) (fun hc5 => ?_)
      · exact absurd hc5 (by decide)
      · refine lv_aload_n (pc := 8) hx hb d_M_compare_8 rfl (lv_at hl 0 rfl) ?_
        refine lv_iload_n (pc := 9) hx hb d_M_compare_9 rfl (lv_at hl 2 rfl) ?_
        refine g_calli (pc := 10) (as := [.int y]) (rest := []) hC hw (c_M_is_n l D g k tp tl tm sz _ wd wl tb hk) lm_M_is f_M_is rfl rfl rfl rfl ⟨by decide, by decide⟩ hl.1 (Nat.le_of_ble_eq_true rfl) d_M_compare_10 (fun r u1 H locs hp hw => ?_)
        obtain ⟨rfl, rfl⟩ := hp
        refine lv_if_eq (pc := 13) (tgt := 25) hx hb d_M_compare_13 (by decide) (fun hc13 => ?_) (fun hc13 => ?_)
        · refine lv_bipush (pc := 25) (v := (-2)) hx hb d_M_compare_25 (by decide) ?_
          exact hQ _ _ _ _ _ _ hw (rfl) (⟨acm_n2 hV, rfl⟩) d_M_compare_27
        · exact absurd rfl hc13
    · refine g_starti (by decide) (Nat.le_of_ble_eq_true rfl) ?_
      intro p ev s m args below meth cd A Q ls hC hQ hl hw
      have hx := hC.1.1
      have hb := hC.1.2.1
      have hl : lv_has ls 3 [(0, .ref (g 0)), (1, .int (nI j)), (2, .int (nI z))] := hl
      refine lv_aload_n (pc := 0) hx hb d_M_compare_0 rfl (lv_at hl 0 rfl) ?_
      refine lv_iload_n (pc := 1) hx hb d_M_compare_1 rfl (lv_at hl 1 rfl) ?_
      refine g_calli (pc := 2) (as := [.int (nI j)]) (rest := []) hC hw (c_M_is_y l D g k tp tl tm sz wd wl tb hj hlen) lm_M_is f_M_is rfl rfl rfl rfl ⟨by decide, by decide⟩ hl.1 (Nat.le_of_ble_eq_true rfl) d_M_compare_2 (fun r u1 H locs hp hw => ?_)
      obtain ⟨rfl, rfl⟩ := hp
      refine lv_if_eq (pc := 5) (tgt := 25) hx hb d_M_compare_5 (by decide) (fun hc5 => ?_) (fun hc5 => ?_)
      · exact absurd hc5 (by decide)
      · refine lv_aload_n (pc := 8) hx hb d_M_compare_8 rfl (lv_at hl 0 rfl) ?_
        refine lv_iload_n (pc := 9) hx hb d_M_compare_9 rfl (lv_at hl 2 rfl) ?_
        refine g_calli (pc := 10) (as := [.int (nI z)]) (rest := []) hC hw (c_M_is_y l D g k tp tl tm sz wd wl tb hz hlen) lm_M_is f_M_is rfl rfl rfl rfl ⟨by decide, by decide⟩ hl.1 (Nat.le_of_ble_eq_true rfl) d_M_compare_10 (fun r u1 H locs hp hw => ?_)
        obtain ⟨rfl, rfl⟩ := hp
        refine lv_if_eq (pc := 13) (tgt := 25) hx hb d_M_compare_13 (by decide) (fun hc13 => ?_) (fun hc13 => ?_)
        · exact absurd hc13 (by decide)
        · refine lv_aload_n (pc := 16) hx hb d_M_compare_16 rfl (lv_at hl 0 rfl) ?_
          refine lv_iload_n (pc := 17) hx hb d_M_compare_17 rfl (lv_at hl 1 rfl) ?_
          refine lv_iload_n (pc := 18) hx hb d_M_compare_18 rfl (lv_at hl 2 rfl) ?_
          refine g_calli (pc := 19) (as := [.int (nI j), .int (nI z)]) (rest := []) hC hw (c_M_order l D g k tp tl tm sz _ wd wl tb (a := j) (b := z) (by omega) (by omega) (ht j _ hj2) (ht z _ hz2)) lm_M_order f_M_order rfl rfl rfl rfl ⟨by decide, by decide⟩ hl.1 (Nat.le_of_ble_eq_true rfl) d_M_compare_19 (fun r u1 H locs hp hw => ?_)
          obtain ⟨rfl, rfl⟩ := hp
          refine lv_goto (pc := 22) (tgt := 27) hx hb d_M_compare_22 (by decide) ?_
          exact hQ _ _ _ _ _ _ hw (rfl) (⟨acm_in hT hV, rfl⟩) d_M_compare_27
end
section
set_option maxHeartbeats 4000000 in
set_option maxRecDepth 100000 in
theorem c_M_distance (l : Launch) (D : va_G) (g : Nat → Nat) (k : Nat → ClassId) (tp : Nat → Int32) (tl : Int32) (tm sz : Nat → Int32) (ct : Int32) (wd : Nat → Int32) (wl : Int32) (tb : Nat → Int32) {a b : Nat} {T V : Tm} (ha : a < 151) (hb0 : b < 151) (hT : tat tm sz a T) (hV : tat tm sz b V) : gMi l y_M_distance (gW y_M_distance b_M_distance 7 (some .int)) (gR 0) D (mT k) (mw g k) [.ref (g 0), .int (nI a), .int (nI b)] (tp, tl, tm, sz, ct, wd, wl, tb) (fun r u => r = nI (lev T V) ∧ ∃ tb1, u = (tp, tl, tm, sz, ct, wd, wl, tb1)) := by
  refine g_starti (by decide) (Nat.le_of_ble_eq_true rfl) ?_
  intro p ev s m args below meth cd A Q ls hC hQ hl hw
  have hx := hC.1.1
  have hb := hC.1.2.1
  have hl : lv_has ls 7 [(0, .ref (g 0)), (1, .int (nI a)), (2, .int (nI b))] := hl
  obtain ⟨t1, t2, t3⟩ := hT
  obtain ⟨v1, v2, v3⟩ := hV
  refine lv_bipush (pc := 0) (v := nI 25) hx hb d_M_distance_0 (by decide) ?_
  refine lv_istore_n (pc := 2) hx hb d_M_distance_2 rfl hl (by decide) rfl (fun ls hl => ?_)
  have hl : lv_has ls 7 [(3, .int (nI 25)), (0, .ref (g 0)), (1, .int (nI a)), (2, .int (nI b))] := hl
  refine lv_iconst (pc := 3) (v := nI 0) hx hb d_M_distance_3 (by decide) ?_
  refine lv_istore (pc := 4) hx hb d_M_distance_4 hl (by decide) rfl (fun ls hl => ?_)
  have hl : lv_has ls 7 [(4, .int (nI 0)), (3, .int (nI 25)), (0, .ref (g 0)), (1, .int (nI a)), (2, .int (nI b))] := hl
  have lp : ∀ (fu : Nat) (x : Nat) (tb1 : Nat → Int32) (ls : Array Slot) (H : Heap) (locs : List Loc), T.1 + 1 - x < fu → lv_has ls 7 [(0, .ref (g 0)), (1, .int (nI a)), (2, .int (nI b)), (3, .int (nI 25)), (4, .int (nI x))] → gH D (mw g k) A s.heap (tp, tl, tm, sz, ct, wd, wl, tb1) H locs → (x ≤ T.1 + 1) → (∀ r q, r < x → q ≤ V.1 → tb1 (25 * r + q) = nI (lvr T.2 V.2 r q)) → W p l ev (gR 0) s m args below meth cd H locs 0 0 Q (F0 m 6 ls []) := by
    intro fu
    induction fu with
    | zero => intro x tb1 ls H locs hn hl hw hx1 hd; exact absurd hn (Nat.not_lt_zero _)
    | succ fu ih =>
      intro x tb1 ls H locs hn hl hw hx1 hd
      refine lv_iload (pc := 6) hx hb d_M_distance_6 (lv_at hl 4 rfl) ?_
      refine lv_aload_n (pc := 8) hx hb d_M_distance_8 rfl (lv_at hl 0 rfl) ?_
      refine mg_sz (pc := 9) hC hw d_M_distance_9 ?_
      refine lv_iload_n (pc := 12) hx hb d_M_distance_12 rfl (lv_at hl 1 rfl) ?_
      refine ml_sz (pc := 13) (i := a) (by omega) hC hw d_M_distance_13 ?_
      refine g_top (y := nI T.1) (t2) ?_
      refine nc_gt (pc := 14) (tgt := 225) hx hb d_M_distance_14 (by decide) (by omega) (by omega) (fun hc14 => ?_) (fun hc14 => ?_)
      · refine lv_aload_n (pc := 225) hx hb d_M_distance_225 rfl (lv_at hl 0 rfl) ?_
        refine mg_tb (pc := 226) hC hw d_M_distance_226 ?_
        refine lv_iload_n (pc := 229) hx hb d_M_distance_229 rfl (lv_at hl 3 rfl) ?_
        refine lv_aload_n (pc := 230) hx hb d_M_distance_230 rfl (lv_at hl 0 rfl) ?_
        refine mg_sz (pc := 231) hC hw d_M_distance_231 ?_
        refine lv_iload_n (pc := 234) hx hb d_M_distance_234 rfl (lv_at hl 1 rfl) ?_
        refine ml_sz (pc := 235) (i := a) (by omega) hC hw d_M_distance_235 ?_
        refine g_top (y := nI T.1) (t2) ?_
        refine lv_imul (pc := 236) hx hb d_M_distance_236 ?_
        refine g_top (y := nI (25 * T.1)) (pk_mul _ _) ?_
        refine lv_aload_n (pc := 237) hx hb d_M_distance_237 rfl (lv_at hl 0 rfl) ?_
        refine mg_sz (pc := 238) hC hw d_M_distance_238 ?_
        refine lv_iload_n (pc := 241) hx hb d_M_distance_241 rfl (lv_at hl 2 rfl) ?_
        refine ml_sz (pc := 242) (i := b) (by omega) hC hw d_M_distance_242 ?_
        refine g_top (y := nI V.1) (v2) ?_
        refine lv_iadd (pc := 243) hx hb d_M_distance_243 ?_
        refine g_top (y := nI (25 * T.1 + V.1)) (nI_add _ _) ?_
        refine ml_tb (pc := 244) (i := 25 * T.1 + V.1) (by omega) hC hw d_M_distance_244 ?_
        refine g_top (y := nI (lev T V)) (hd T.1 V.1 (by omega) (Nat.le_refl _)) ?_
        exact hQ _ _ _ _ _ _ hw (rfl) (⟨rfl, _, rfl⟩) d_M_distance_245
      · refine lv_iconst (pc := 17) (v := nI 0) hx hb d_M_distance_17 (by decide) ?_
        refine lv_istore (pc := 18) hx hb d_M_distance_18 hl (by decide) rfl (fun ls hl => ?_)
        have hl : lv_has ls 7 [(5, .int (nI 0)), (0, .ref (g 0)), (1, .int (nI a)), (2, .int (nI b)), (3, .int (nI 25)), (4, .int (nI x))] := hl
        have lp3 : ∀ (fu : Nat) (y : Nat) (tb2 : Nat → Int32) (ls : Array Slot) (H : Heap) (locs : List Loc), V.1 + 1 - y < fu → lv_has ls 7 [(0, .ref (g 0)), (1, .int (nI a)), (2, .int (nI b)), (3, .int (nI 25)), (4, .int (nI x)), (5, .int (nI y))] → gH D (mw g k) A s.heap (tp, tl, tm, sz, ct, wd, wl, tb2) H locs → (y ≤ V.1 + 1) → (∀ r q, r < x → q ≤ V.1 → tb2 (25 * r + q) = nI (lvr T.2 V.2 r q)) → (∀ q, q < y → tb2 (25 * x + q) = nI (lvr T.2 V.2 x q)) → W p l ev (gR 0) s m args below meth cd H locs 0 0 Q (F0 m 20 ls []) := by
          intro fu
          induction fu with
          | zero => intro y tb2 ls H locs hn3 hl hw hy1 he1 he2; exact absurd hn3 (Nat.not_lt_zero _)
          | succ fu ih3 =>
            intro y tb2 ls H locs hn3 hl hw hy1 he1 he2
            refine lv_iload (pc := 20) hx hb d_M_distance_20 (lv_at hl 5 rfl) ?_
            refine lv_aload_n (pc := 22) hx hb d_M_distance_22 rfl (lv_at hl 0 rfl) ?_
            refine mg_sz (pc := 23) hC hw d_M_distance_23 ?_
            refine lv_iload_n (pc := 26) hx hb d_M_distance_26 rfl (lv_at hl 2 rfl) ?_
            refine ml_sz (pc := 27) (i := b) (by omega) hC hw d_M_distance_27 ?_
            refine g_top (y := nI V.1) (v2) ?_
            refine nc_gt (pc := 28) (tgt := 219) hx hb d_M_distance_28 (by decide) (by omega) (by omega) (fun hc28 => ?_) (fun hc28 => ?_)
            · refine lv_iinc (pc := 219) (k := 4) (v := nI (x + 1)) hx hb d_M_distance_219 hl rfl (nI_i1 x) (by decide) rfl (fun ls hl => ?_)
              have hl : lv_has ls 7 [(4, .int (nI (x + 1))), (0, .ref (g 0)), (1, .int (nI a)), (2, .int (nI b)), (3, .int (nI 25)), (5, .int (nI y))] := hl
              refine lv_goto (pc := 222) (tgt := 6) hx hb d_M_distance_222 (by decide) ?_
              exact ih (x + 1) tb2 _ _ _ (by omega) (lv_sub hl [1, 2, 3, 4, 0] rfl) hw (by omega) (fun r q h1 h2 => by
                  by_cases er : r = x
                  · rw [er]; exact he2 q (by omega)
                  · exact he1 r q (by omega) h2)
            · have t199 : ∀ (ls : Array Slot), lv_has ls 7 [(0, .ref (g 0)), (1, .int (nI a)), (2, .int (nI b)), (3, .int (nI 25)), (4, .int (nI x)), (5, .int (nI y)), (6, .int (nI (lvr T.2 V.2 x y)))] → W p l ev (gR 0) s m args below meth cd H locs 0 0 Q (F0 m 199 ls []) := by
                intro ls hl
                refine lv_aload_n (pc := 199) hx hb d_M_distance_199 rfl (lv_at hl 0 rfl) ?_
                refine mg_tb (pc := 200) hC hw d_M_distance_200 ?_
                refine lv_iload_n (pc := 203) hx hb d_M_distance_203 rfl (lv_at hl 3 rfl) ?_
                refine lv_iload (pc := 204) hx hb d_M_distance_204 (lv_at hl 4 rfl) ?_
                refine lv_imul (pc := 206) hx hb d_M_distance_206 ?_
                refine g_top (y := nI (25 * x)) (pk_mul _ _) ?_
                refine lv_iload (pc := 207) hx hb d_M_distance_207 (lv_at hl 5 rfl) ?_
                refine lv_iadd (pc := 209) hx hb d_M_distance_209 ?_
                refine g_top (y := nI ((25 * x) + y)) (nI_add _ _) ?_
                refine lv_iload (pc := 210) hx hb d_M_distance_210 (lv_at hl 6 rfl) ?_
                refine ms_tb (pc := 212) (i := (25 * x) + y) (x := nI (lvr T.2 V.2 x y)) (by omega) hC hw d_M_distance_212 (fun H locs hw => ?_)
                refine lv_iinc (pc := 213) (k := 5) (v := nI (y + 1)) hx hb d_M_distance_213 hl rfl (nI_i1 y) (by decide) rfl (fun ls hl => ?_)
                have hl : lv_has ls 7 [(5, .int (nI (y + 1))), (0, .ref (g 0)), (1, .int (nI a)), (2, .int (nI b)), (3, .int (nI 25)), (4, .int (nI x)), (6, .int (nI (lvr T.2 V.2 x y)))] := hl
                refine lv_goto (pc := 216) (tgt := 20) hx hb d_M_distance_216 (by decide) ?_
                refine ih3 (y + 1) _ _ _ _ (by omega) (lv_sub hl [1, 2, 3, 4, 5, 0] rfl) hw (by omega) (fun r q h1 h2 => ?_) (fun q h1 => ?_)
                · rw [pk_un (by omega)]; exact he1 r q h1 h2
                · by_cases eq : q = y
                  · rw [eq, pk_us]
                  · rw [pk_un (by omega)]; exact he2 q (by omega)
              refine lv_iload (pc := 31) hx hb d_M_distance_31 (lv_at hl 4 rfl) ?_
              refine lv_if_ne (pc := 33) (tgt := 41) hx hb d_M_distance_33 (by decide) (fun hc33 => ?_) (fun hc33 => ?_)
              · obtain ⟨x, rfl⟩ : ∃ x1, x = x1 + 1 := ⟨x - 1, by have : x ≠ 0 := fun q => hc33 (by rw [q]; rfl); omega⟩
                refine lv_iload (pc := 41) hx hb d_M_distance_41 (lv_at hl 5 rfl) ?_
                refine lv_if_ne (pc := 43) (tgt := 51) hx hb d_M_distance_43 (by decide) (fun hc43 => ?_) (fun hc43 => ?_)
                · obtain ⟨y, rfl⟩ : ∃ y1, y = y1 + 1 := ⟨y - 1, by have : y ≠ 0 := fun q => hc43 (by rw [q]; rfl); omega⟩
                  refine lv_sipush (pc := 51) (v := nI 1000) hx hb d_M_distance_51 (by decide) ?_
                  refine lv_istore (pc := 54) hx hb d_M_distance_54 hl (by decide) rfl (fun ls hl => ?_)
                  have hl : lv_has ls 7 [(6, .int (nI 1000)), (0, .ref (g 0)), (1, .int (nI a)), (2, .int (nI b)), (3, .int (nI 25)), (4, .int (nI (x + 1))), (5, .int (nI (y + 1)))] := hl
                  refine lv_iload (pc := 56) hx hb d_M_distance_56 (lv_at hl 5 rfl) ?_
                  refine lv_if_le (pc := 58) (tgt := 199) hx hb d_M_distance_58 (by decide) (fun hc58 => ?_) (fun hc58 => ?_)
                  · exact absurd hc58 (nI_nle (by omega) (by omega))
                  · refine lv_iload (pc := 61) hx hb d_M_distance_61 (lv_at hl 6 rfl) ?_
                    refine lv_if_le (pc := 63) (tgt := 199) hx hb d_M_distance_63 (by decide) (fun hc63 => ?_) (fun hc63 => ?_)
                    · exact absurd hc63 (nI_nle (by omega) (by omega))
                    · have b1 : lvr T.2 V.2 x y ≤ 24 := Nat.le_trans (lvr_le _ _ _ _) (by omega)
                      have b2 : lvr T.2 V.2 x (y + 1) ≤ 24 := Nat.le_trans (lvr_le _ _ _ _) (by omega)
                      have b3 : lvr T.2 V.2 (x + 1) y ≤ 24 := Nat.le_trans (lvr_le _ _ _ _) (by omega)
                      have hss := lvr_ss T.2 V.2 x y
                      refine lv_aload_n (pc := 66) hx hb d_M_distance_66 rfl (lv_at hl 1 rfl) ?_
                      refine mg_tb (pc := 67) hC hw d_M_distance_67 ?_
                      refine lv_iload_n (pc := 70) hx hb d_M_distance_70 rfl (lv_at hl 4 rfl) ?_
                      refine lv_iload (pc := 71) hx hb d_M_distance_71 (lv_at hl 5 rfl) ?_
                      refine lv_iconst (pc := 73) (v := nI 1) hx hb d_M_distance_73 (by decide) ?_
                      refine lv_isub (pc := 74) hx hb d_M_distance_74 ?_
                      refine g_top (y := nI x) (nI_pred x) ?_
                      refine lv_imul (pc := 75) hx hb d_M_distance_75 ?_
                      refine g_top (y := nI (25 * x)) (pk_mul _ _) ?_
                      refine lv_iload (pc := 76) hx hb d_M_distance_76 (lv_at hl 6 rfl) ?_
                      refine lv_iadd (pc := 78) hx hb d_M_distance_78 ?_
                      refine g_top (y := nI ((25 * x) + (y + 1))) (nI_add _ _) ?_
                      refine lv_iconst (pc := 79) (v := nI 1) hx hb d_M_distance_79 (by decide) ?_
                      refine lv_isub (pc := 80) hx hb d_M_distance_80 ?_
                      refine g_top (y := nI (25 * x + y)) ((pk_sub (by omega)).trans (congrArg nI (by omega))) ?_
                      refine ml_tb (pc := 81) (i := 25 * x + y) (by omega) hC hw d_M_distance_81 ?_
                      refine g_top (y := nI (lvr T.2 V.2 x y)) (he1 x y (by omega) (by omega)) ?_
                      refine lv_aload_n (pc := 82) hx hb d_M_distance_82 rfl (lv_at hl 1 rfl) ?_
                      refine mg_tm (pc := 83) hC hw d_M_distance_83 ?_
                      refine lv_bipush (pc := 86) (v := nI 24) hx hb d_M_distance_86 (by decide) ?_
                      refine lv_iload_n (pc := 88) hx hb d_M_distance_88 rfl (lv_at hl 2 rfl) ?_
                      refine lv_imul (pc := 89) hx hb d_M_distance_89 ?_
                      refine g_top (y := nI (24 * a)) (pk_mul _ _) ?_
                      refine lv_iload (pc := 90) hx hb d_M_distance_90 (lv_at hl 5 rfl) ?_
                      refine lv_iadd (pc := 92) hx hb d_M_distance_92 ?_
                      refine g_top (y := nI ((24 * a) + (x + 1))) (nI_add _ _) ?_
                      refine lv_iconst (pc := 93) (v := nI 1) hx hb d_M_distance_93 (by decide) ?_
                      refine lv_isub (pc := 94) hx hb d_M_distance_94 ?_
                      refine g_top (y := nI (24 * a + x)) ((pk_sub (by omega)).trans (congrArg nI (by omega))) ?_
                      refine ml_tm (pc := 95) (i := 24 * a + x) (by omega) hC hw d_M_distance_95 ?_
                      refine g_top (y := T.2 x) (t3 x (by omega)) ?_
                      refine lv_aload_n (pc := 96) hx hb d_M_distance_96 rfl (lv_at hl 1 rfl) ?_
                      refine mg_tm (pc := 97) hC hw d_M_distance_97 ?_
                      refine lv_bipush (pc := 100) (v := nI 24) hx hb d_M_distance_100 (by decide) ?_
                      refine lv_iload_n (pc := 102) hx hb d_M_distance_102 rfl (lv_at hl 3 rfl) ?_
                      refine lv_imul (pc := 103) hx hb d_M_distance_103 ?_
                      refine g_top (y := nI (24 * b)) (pk_mul _ _) ?_
                      refine lv_iload (pc := 104) hx hb d_M_distance_104 (lv_at hl 6 rfl) ?_
                      refine lv_iadd (pc := 106) hx hb d_M_distance_106 ?_
                      refine g_top (y := nI ((24 * b) + (y + 1))) (nI_add _ _) ?_
                      refine lv_iconst (pc := 107) (v := nI 1) hx hb d_M_distance_107 (by decide) ?_
                      refine lv_isub (pc := 108) hx hb d_M_distance_108 ?_
                      refine g_top (y := nI (24 * b + y)) ((pk_sub (by omega)).trans (congrArg nI (by omega))) ?_
                      refine ml_tm (pc := 109) (i := 24 * b + y) (by omega) hC hw d_M_distance_109 ?_
                      refine g_top (y := V.2 y) (v3 y (by omega)) ?_
                      refine lv_icmp_ne (pc := 110) (tgt := 117) hx hb d_M_distance_110 (by decide) (fun hc110 => ?_) (fun hc110 => ?_)
                      · rw [if_neg hc110] at hss
                        refine lv_iconst (pc := 117) (v := nI 1) hx hb d_M_distance_117 (by decide) ?_
                        refine lv_iadd (pc := 118) hx hb d_M_distance_118 ?_
                        refine g_top (y := nI ((lvr T.2 V.2 x y) + 1)) (nI_add _ _) ?_
                        refine lv_istore (pc := 119) hx hb d_M_distance_119 hl (by decide) rfl (fun ls hl => ?_)
                        have hl : lv_has ls 7 [(6, .int (nI ((lvr T.2 V.2 x y) + 1))), (0, .ref (g 0)), (1, .int (nI a)), (2, .int (nI b)), (3, .int (nI 25)), (4, .int (nI (x + 1))), (5, .int (nI (y + 1)))] := hl
                        refine lv_aload_n (pc := 121) hx hb d_M_distance_121 rfl (lv_at hl 1 rfl) ?_
                        refine mg_tb (pc := 122) hC hw d_M_distance_122 ?_
                        refine lv_iload_n (pc := 125) hx hb d_M_distance_125 rfl (lv_at hl 4 rfl) ?_
                        refine lv_iload (pc := 126) hx hb d_M_distance_126 (lv_at hl 5 rfl) ?_
                        refine lv_iconst (pc := 128) (v := nI 1) hx hb d_M_distance_128 (by decide) ?_
                        refine lv_isub (pc := 129) hx hb d_M_distance_129 ?_
                        refine g_top (y := nI x) (nI_pred x) ?_
                        refine lv_imul (pc := 130) hx hb d_M_distance_130 ?_
                        refine g_top (y := nI (25 * x)) (pk_mul _ _) ?_
                        refine lv_iload (pc := 131) hx hb d_M_distance_131 (lv_at hl 6 rfl) ?_
                        refine lv_iadd (pc := 133) hx hb d_M_distance_133 ?_
                        refine g_top (y := nI ((25 * x) + (y + 1))) (nI_add _ _) ?_
                        refine ml_tb (pc := 134) (i := (25 * x) + (y + 1)) (by omega) hC hw d_M_distance_134 ?_
                        refine g_top (y := nI (lvr T.2 V.2 x (y + 1))) (he1 x (y + 1) (by omega) (by omega)) ?_
                        refine lv_iconst (pc := 135) (v := nI 1) hx hb d_M_distance_135 (by decide) ?_
                        refine lv_iadd (pc := 136) hx hb d_M_distance_136 ?_
                        refine g_top (y := nI ((lvr T.2 V.2 x (y + 1)) + 1)) (nI_add _ _) ?_
                        refine lv_iload (pc := 137) hx hb d_M_distance_137 (lv_at hl 0 rfl) ?_
                        refine nc_ge (pc := 139) (tgt := 160) hx hb d_M_distance_139 (by decide) (by omega) (by omega) (fun hc139 => ?_) (fun hc139 => ?_)
                        · refine lv_aload_n (pc := 160) hx hb d_M_distance_160 rfl (lv_at hl 1 rfl) ?_
                          refine mg_tb (pc := 161) hC hw d_M_distance_161 ?_
                          refine lv_iload_n (pc := 164) hx hb d_M_distance_164 rfl (lv_at hl 4 rfl) ?_
                          refine lv_iload (pc := 165) hx hb d_M_distance_165 (lv_at hl 5 rfl) ?_
                          refine lv_imul (pc := 167) hx hb d_M_distance_167 ?_
                          refine g_top (y := nI (25 * (x + 1))) (pk_mul _ _) ?_
                          refine lv_iload (pc := 168) hx hb d_M_distance_168 (lv_at hl 6 rfl) ?_
                          refine lv_iadd (pc := 170) hx hb d_M_distance_170 ?_
                          refine g_top (y := nI ((25 * (x + 1)) + (y + 1))) (nI_add _ _) ?_
                          refine lv_iconst (pc := 171) (v := nI 1) hx hb d_M_distance_171 (by decide) ?_
                          refine lv_isub (pc := 172) hx hb d_M_distance_172 ?_
                          refine g_top (y := nI (25 * (x + 1) + y)) ((pk_sub (by omega)).trans (congrArg nI (by omega))) ?_
                          refine ml_tb (pc := 173) (i := 25 * (x + 1) + y) (by omega) hC hw d_M_distance_173 ?_
                          refine g_top (y := nI (lvr T.2 V.2 (x + 1) y)) (he2 y (by omega)) ?_
                          refine lv_iconst (pc := 174) (v := nI 1) hx hb d_M_distance_174 (by decide) ?_
                          refine lv_iadd (pc := 175) hx hb d_M_distance_175 ?_
                          refine g_top (y := nI ((lvr T.2 V.2 (x + 1) y) + 1)) (nI_add _ _) ?_
                          refine lv_iload (pc := 176) hx hb d_M_distance_176 (lv_at hl 0 rfl) ?_
                          refine nc_ge (pc := 178) (tgt := 199) hx hb d_M_distance_178 (by decide) (by omega) (by omega) (fun hc178 => ?_) (fun hc178 => ?_)
                          · exact t199 _ (by rw [show lvr T.2 V.2 (x + 1) (y + 1) = (lvr T.2 V.2 x y) + 1 by rw [hss]; omega]; exact (lv_sub hl [1, 2, 3, 4, 5, 6, 0] rfl))
                          · refine lv_aload_n (pc := 181) hx hb d_M_distance_181 rfl (lv_at hl 1 rfl) ?_
                            refine mg_tb (pc := 182) hC hw d_M_distance_182 ?_
                            refine lv_iload_n (pc := 185) hx hb d_M_distance_185 rfl (lv_at hl 4 rfl) ?_
                            refine lv_iload (pc := 186) hx hb d_M_distance_186 (lv_at hl 5 rfl) ?_
                            refine lv_imul (pc := 188) hx hb d_M_distance_188 ?_
                            refine g_top (y := nI (25 * (x + 1))) (pk_mul _ _) ?_
                            refine lv_iload (pc := 189) hx hb d_M_distance_189 (lv_at hl 6 rfl) ?_
                            refine lv_iadd (pc := 191) hx hb d_M_distance_191 ?_
                            refine g_top (y := nI ((25 * (x + 1)) + (y + 1))) (nI_add _ _) ?_
                            refine lv_iconst (pc := 192) (v := nI 1) hx hb d_M_distance_192 (by decide) ?_
                            refine lv_isub (pc := 193) hx hb d_M_distance_193 ?_
                            refine g_top (y := nI (25 * (x + 1) + y)) ((pk_sub (by omega)).trans (congrArg nI (by omega))) ?_
                            refine ml_tb (pc := 194) (i := 25 * (x + 1) + y) (by omega) hC hw d_M_distance_194 ?_
                            refine g_top (y := nI (lvr T.2 V.2 (x + 1) y)) (he2 y (by omega)) ?_
                            refine lv_iconst (pc := 195) (v := nI 1) hx hb d_M_distance_195 (by decide) ?_
                            refine lv_iadd (pc := 196) hx hb d_M_distance_196 ?_
                            refine g_top (y := nI ((lvr T.2 V.2 (x + 1) y) + 1)) (nI_add _ _) ?_
                            refine lv_istore (pc := 197) hx hb d_M_distance_197 hl (by decide) rfl (fun ls hl => ?_)
                            have hl : lv_has ls 7 [(6, .int (nI ((lvr T.2 V.2 (x + 1) y) + 1))), (0, .ref (g 0)), (1, .int (nI a)), (2, .int (nI b)), (3, .int (nI 25)), (4, .int (nI (x + 1))), (5, .int (nI (y + 1)))] := hl
                            exact t199 _ (by rw [show lvr T.2 V.2 (x + 1) (y + 1) = (lvr T.2 V.2 (x + 1) y) + 1 by rw [hss]; omega]; exact (lv_sub hl [1, 2, 3, 4, 5, 6, 0] rfl))
                        · refine lv_aload_n (pc := 142) hx hb d_M_distance_142 rfl (lv_at hl 1 rfl) ?_
                          refine mg_tb (pc := 143) hC hw d_M_distance_143 ?_
                          refine lv_iload_n (pc := 146) hx hb d_M_distance_146 rfl (lv_at hl 4 rfl) ?_
                          refine lv_iload (pc := 147) hx hb d_M_distance_147 (lv_at hl 5 rfl) ?_
                          refine lv_iconst (pc := 149) (v := nI 1) hx hb d_M_distance_149 (by decide) ?_
                          refine lv_isub (pc := 150) hx hb d_M_distance_150 ?_
                          refine g_top (y := nI x) (nI_pred x) ?_
                          refine lv_imul (pc := 151) hx hb d_M_distance_151 ?_
                          refine g_top (y := nI (25 * x)) (pk_mul _ _) ?_
                          refine lv_iload (pc := 152) hx hb d_M_distance_152 (lv_at hl 6 rfl) ?_
                          refine lv_iadd (pc := 154) hx hb d_M_distance_154 ?_
                          refine g_top (y := nI ((25 * x) + (y + 1))) (nI_add _ _) ?_
                          refine ml_tb (pc := 155) (i := (25 * x) + (y + 1)) (by omega) hC hw d_M_distance_155 ?_
                          refine g_top (y := nI (lvr T.2 V.2 x (y + 1))) (he1 x (y + 1) (by omega) (by omega)) ?_
                          refine lv_iconst (pc := 156) (v := nI 1) hx hb d_M_distance_156 (by decide) ?_
                          refine lv_iadd (pc := 157) hx hb d_M_distance_157 ?_
                          refine g_top (y := nI ((lvr T.2 V.2 x (y + 1)) + 1)) (nI_add _ _) ?_
                          refine lv_istore (pc := 158) hx hb d_M_distance_158 hl (by decide) rfl (fun ls hl => ?_)
                          have hl : lv_has ls 7 [(6, .int (nI ((lvr T.2 V.2 x (y + 1)) + 1))), (0, .ref (g 0)), (1, .int (nI a)), (2, .int (nI b)), (3, .int (nI 25)), (4, .int (nI (x + 1))), (5, .int (nI (y + 1)))] := hl
                          refine lv_aload_n (pc := 160) hx hb d_M_distance_160 rfl (lv_at hl 1 rfl) ?_
                          refine mg_tb (pc := 161) hC hw d_M_distance_161 ?_
                          refine lv_iload_n (pc := 164) hx hb d_M_distance_164 rfl (lv_at hl 4 rfl) ?_
                          refine lv_iload (pc := 165) hx hb d_M_distance_165 (lv_at hl 5 rfl) ?_
                          refine lv_imul (pc := 167) hx hb d_M_distance_167 ?_
                          refine g_top (y := nI (25 * (x + 1))) (pk_mul _ _) ?_
                          refine lv_iload (pc := 168) hx hb d_M_distance_168 (lv_at hl 6 rfl) ?_
                          refine lv_iadd (pc := 170) hx hb d_M_distance_170 ?_
                          refine g_top (y := nI ((25 * (x + 1)) + (y + 1))) (nI_add _ _) ?_
                          refine lv_iconst (pc := 171) (v := nI 1) hx hb d_M_distance_171 (by decide) ?_
                          refine lv_isub (pc := 172) hx hb d_M_distance_172 ?_
                          refine g_top (y := nI (25 * (x + 1) + y)) ((pk_sub (by omega)).trans (congrArg nI (by omega))) ?_
                          refine ml_tb (pc := 173) (i := 25 * (x + 1) + y) (by omega) hC hw d_M_distance_173 ?_
                          refine g_top (y := nI (lvr T.2 V.2 (x + 1) y)) (he2 y (by omega)) ?_
                          refine lv_iconst (pc := 174) (v := nI 1) hx hb d_M_distance_174 (by decide) ?_
                          refine lv_iadd (pc := 175) hx hb d_M_distance_175 ?_
                          refine g_top (y := nI ((lvr T.2 V.2 (x + 1) y) + 1)) (nI_add _ _) ?_
                          refine lv_iload (pc := 176) hx hb d_M_distance_176 (lv_at hl 0 rfl) ?_
                          refine nc_ge (pc := 178) (tgt := 199) hx hb d_M_distance_178 (by decide) (by omega) (by omega) (fun hc178 => ?_) (fun hc178 => ?_)
                          · exact t199 _ (by rw [show lvr T.2 V.2 (x + 1) (y + 1) = (lvr T.2 V.2 x (y + 1)) + 1 by rw [hss]; omega]; exact (lv_sub hl [1, 2, 3, 4, 5, 6, 0] rfl))
                          · refine lv_aload_n (pc := 181) hx hb d_M_distance_181 rfl (lv_at hl 1 rfl) ?_
                            refine mg_tb (pc := 182) hC hw d_M_distance_182 ?_
                            refine lv_iload_n (pc := 185) hx hb d_M_distance_185 rfl (lv_at hl 4 rfl) ?_
                            refine lv_iload (pc := 186) hx hb d_M_distance_186 (lv_at hl 5 rfl) ?_
                            refine lv_imul (pc := 188) hx hb d_M_distance_188 ?_
                            refine g_top (y := nI (25 * (x + 1))) (pk_mul _ _) ?_
                            refine lv_iload (pc := 189) hx hb d_M_distance_189 (lv_at hl 6 rfl) ?_
                            refine lv_iadd (pc := 191) hx hb d_M_distance_191 ?_
                            refine g_top (y := nI ((25 * (x + 1)) + (y + 1))) (nI_add _ _) ?_
                            refine lv_iconst (pc := 192) (v := nI 1) hx hb d_M_distance_192 (by decide) ?_
                            refine lv_isub (pc := 193) hx hb d_M_distance_193 ?_
                            refine g_top (y := nI (25 * (x + 1) + y)) ((pk_sub (by omega)).trans (congrArg nI (by omega))) ?_
                            refine ml_tb (pc := 194) (i := 25 * (x + 1) + y) (by omega) hC hw d_M_distance_194 ?_
                            refine g_top (y := nI (lvr T.2 V.2 (x + 1) y)) (he2 y (by omega)) ?_
                            refine lv_iconst (pc := 195) (v := nI 1) hx hb d_M_distance_195 (by decide) ?_
                            refine lv_iadd (pc := 196) hx hb d_M_distance_196 ?_
                            refine g_top (y := nI ((lvr T.2 V.2 (x + 1) y) + 1)) (nI_add _ _) ?_
                            refine lv_istore (pc := 197) hx hb d_M_distance_197 hl (by decide) rfl (fun ls hl => ?_)
                            have hl : lv_has ls 7 [(6, .int (nI ((lvr T.2 V.2 (x + 1) y) + 1))), (0, .ref (g 0)), (1, .int (nI a)), (2, .int (nI b)), (3, .int (nI 25)), (4, .int (nI (x + 1))), (5, .int (nI (y + 1)))] := hl
                            exact t199 _ (by rw [show lvr T.2 V.2 (x + 1) (y + 1) = (lvr T.2 V.2 (x + 1) y) + 1 by rw [hss]; omega]; exact (lv_sub hl [1, 2, 3, 4, 5, 6, 0] rfl))
                      · rw [if_pos hc110] at hss
                        refine lv_iconst (pc := 113) (v := nI 0) hx hb d_M_distance_113 (by decide) ?_
                        refine lv_goto (pc := 114) (tgt := 118) hx hb d_M_distance_114 (by decide) ?_
                        refine lv_iadd (pc := 118) hx hb d_M_distance_118 ?_
                        refine g_top (y := nI ((lvr T.2 V.2 x y) + 0)) (nI_add _ _) ?_
                        refine lv_istore (pc := 119) hx hb d_M_distance_119 hl (by decide) rfl (fun ls hl => ?_)
                        have hl : lv_has ls 7 [(6, .int (nI ((lvr T.2 V.2 x y) + 0))), (0, .ref (g 0)), (1, .int (nI a)), (2, .int (nI b)), (3, .int (nI 25)), (4, .int (nI (x + 1))), (5, .int (nI (y + 1)))] := hl
                        refine lv_aload_n (pc := 121) hx hb d_M_distance_121 rfl (lv_at hl 1 rfl) ?_
                        refine mg_tb (pc := 122) hC hw d_M_distance_122 ?_
                        refine lv_iload_n (pc := 125) hx hb d_M_distance_125 rfl (lv_at hl 4 rfl) ?_
                        refine lv_iload (pc := 126) hx hb d_M_distance_126 (lv_at hl 5 rfl) ?_
                        refine lv_iconst (pc := 128) (v := nI 1) hx hb d_M_distance_128 (by decide) ?_
                        refine lv_isub (pc := 129) hx hb d_M_distance_129 ?_
                        refine g_top (y := nI x) (nI_pred x) ?_
                        refine lv_imul (pc := 130) hx hb d_M_distance_130 ?_
                        refine g_top (y := nI (25 * x)) (pk_mul _ _) ?_
                        refine lv_iload (pc := 131) hx hb d_M_distance_131 (lv_at hl 6 rfl) ?_
                        refine lv_iadd (pc := 133) hx hb d_M_distance_133 ?_
                        refine g_top (y := nI ((25 * x) + (y + 1))) (nI_add _ _) ?_
                        refine ml_tb (pc := 134) (i := (25 * x) + (y + 1)) (by omega) hC hw d_M_distance_134 ?_
                        refine g_top (y := nI (lvr T.2 V.2 x (y + 1))) (he1 x (y + 1) (by omega) (by omega)) ?_
                        refine lv_iconst (pc := 135) (v := nI 1) hx hb d_M_distance_135 (by decide) ?_
                        refine lv_iadd (pc := 136) hx hb d_M_distance_136 ?_
                        refine g_top (y := nI ((lvr T.2 V.2 x (y + 1)) + 1)) (nI_add _ _) ?_
                        refine lv_iload (pc := 137) hx hb d_M_distance_137 (lv_at hl 0 rfl) ?_
                        refine nc_ge (pc := 139) (tgt := 160) hx hb d_M_distance_139 (by decide) (by omega) (by omega) (fun hc139 => ?_) (fun hc139 => ?_)
                        · refine lv_aload_n (pc := 160) hx hb d_M_distance_160 rfl (lv_at hl 1 rfl) ?_
                          refine mg_tb (pc := 161) hC hw d_M_distance_161 ?_
                          refine lv_iload_n (pc := 164) hx hb d_M_distance_164 rfl (lv_at hl 4 rfl) ?_
                          refine lv_iload (pc := 165) hx hb d_M_distance_165 (lv_at hl 5 rfl) ?_
                          refine lv_imul (pc := 167) hx hb d_M_distance_167 ?_
                          refine g_top (y := nI (25 * (x + 1))) (pk_mul _ _) ?_
                          refine lv_iload (pc := 168) hx hb d_M_distance_168 (lv_at hl 6 rfl) ?_
                          refine lv_iadd (pc := 170) hx hb d_M_distance_170 ?_
                          refine g_top (y := nI ((25 * (x + 1)) + (y + 1))) (nI_add _ _) ?_
                          refine lv_iconst (pc := 171) (v := nI 1) hx hb d_M_distance_171 (by decide) ?_
                          refine lv_isub (pc := 172) hx hb d_M_distance_172 ?_
                          refine g_top (y := nI (25 * (x + 1) + y)) ((pk_sub (by omega)).trans (congrArg nI (by omega))) ?_
                          refine ml_tb (pc := 173) (i := 25 * (x + 1) + y) (by omega) hC hw d_M_distance_173 ?_
                          refine g_top (y := nI (lvr T.2 V.2 (x + 1) y)) (he2 y (by omega)) ?_
                          refine lv_iconst (pc := 174) (v := nI 1) hx hb d_M_distance_174 (by decide) ?_
                          refine lv_iadd (pc := 175) hx hb d_M_distance_175 ?_
                          refine g_top (y := nI ((lvr T.2 V.2 (x + 1) y) + 1)) (nI_add _ _) ?_
                          refine lv_iload (pc := 176) hx hb d_M_distance_176 (lv_at hl 0 rfl) ?_
                          refine nc_ge (pc := 178) (tgt := 199) hx hb d_M_distance_178 (by decide) (by omega) (by omega) (fun hc178 => ?_) (fun hc178 => ?_)
                          · exact t199 _ (by rw [show lvr T.2 V.2 (x + 1) (y + 1) = (lvr T.2 V.2 x y) + 0 by rw [hss]; omega]; exact (lv_sub hl [1, 2, 3, 4, 5, 6, 0] rfl))
                          · refine lv_aload_n (pc := 181) hx hb d_M_distance_181 rfl (lv_at hl 1 rfl) ?_
                            refine mg_tb (pc := 182) hC hw d_M_distance_182 ?_
                            refine lv_iload_n (pc := 185) hx hb d_M_distance_185 rfl (lv_at hl 4 rfl) ?_
                            refine lv_iload (pc := 186) hx hb d_M_distance_186 (lv_at hl 5 rfl) ?_
                            refine lv_imul (pc := 188) hx hb d_M_distance_188 ?_
                            refine g_top (y := nI (25 * (x + 1))) (pk_mul _ _) ?_
                            refine lv_iload (pc := 189) hx hb d_M_distance_189 (lv_at hl 6 rfl) ?_
                            refine lv_iadd (pc := 191) hx hb d_M_distance_191 ?_
                            refine g_top (y := nI ((25 * (x + 1)) + (y + 1))) (nI_add _ _) ?_
                            refine lv_iconst (pc := 192) (v := nI 1) hx hb d_M_distance_192 (by decide) ?_
                            refine lv_isub (pc := 193) hx hb d_M_distance_193 ?_
                            refine g_top (y := nI (25 * (x + 1) + y)) ((pk_sub (by omega)).trans (congrArg nI (by omega))) ?_
                            refine ml_tb (pc := 194) (i := 25 * (x + 1) + y) (by omega) hC hw d_M_distance_194 ?_
                            refine g_top (y := nI (lvr T.2 V.2 (x + 1) y)) (he2 y (by omega)) ?_
                            refine lv_iconst (pc := 195) (v := nI 1) hx hb d_M_distance_195 (by decide) ?_
                            refine lv_iadd (pc := 196) hx hb d_M_distance_196 ?_
                            refine g_top (y := nI ((lvr T.2 V.2 (x + 1) y) + 1)) (nI_add _ _) ?_
                            refine lv_istore (pc := 197) hx hb d_M_distance_197 hl (by decide) rfl (fun ls hl => ?_)
                            have hl : lv_has ls 7 [(6, .int (nI ((lvr T.2 V.2 (x + 1) y) + 1))), (0, .ref (g 0)), (1, .int (nI a)), (2, .int (nI b)), (3, .int (nI 25)), (4, .int (nI (x + 1))), (5, .int (nI (y + 1)))] := hl
                            exact t199 _ (by rw [show lvr T.2 V.2 (x + 1) (y + 1) = (lvr T.2 V.2 (x + 1) y) + 1 by rw [hss]; omega]; exact (lv_sub hl [1, 2, 3, 4, 5, 6, 0] rfl))
                        · refine lv_aload_n (pc := 142) hx hb d_M_distance_142 rfl (lv_at hl 1 rfl) ?_
                          refine mg_tb (pc := 143) hC hw d_M_distance_143 ?_
                          refine lv_iload_n (pc := 146) hx hb d_M_distance_146 rfl (lv_at hl 4 rfl) ?_
                          refine lv_iload (pc := 147) hx hb d_M_distance_147 (lv_at hl 5 rfl) ?_
                          refine lv_iconst (pc := 149) (v := nI 1) hx hb d_M_distance_149 (by decide) ?_
                          refine lv_isub (pc := 150) hx hb d_M_distance_150 ?_
                          refine g_top (y := nI x) (nI_pred x) ?_
                          refine lv_imul (pc := 151) hx hb d_M_distance_151 ?_
                          refine g_top (y := nI (25 * x)) (pk_mul _ _) ?_
                          refine lv_iload (pc := 152) hx hb d_M_distance_152 (lv_at hl 6 rfl) ?_
                          refine lv_iadd (pc := 154) hx hb d_M_distance_154 ?_
                          refine g_top (y := nI ((25 * x) + (y + 1))) (nI_add _ _) ?_
                          refine ml_tb (pc := 155) (i := (25 * x) + (y + 1)) (by omega) hC hw d_M_distance_155 ?_
                          refine g_top (y := nI (lvr T.2 V.2 x (y + 1))) (he1 x (y + 1) (by omega) (by omega)) ?_
                          refine lv_iconst (pc := 156) (v := nI 1) hx hb d_M_distance_156 (by decide) ?_
                          refine lv_iadd (pc := 157) hx hb d_M_distance_157 ?_
                          refine g_top (y := nI ((lvr T.2 V.2 x (y + 1)) + 1)) (nI_add _ _) ?_
                          refine lv_istore (pc := 158) hx hb d_M_distance_158 hl (by decide) rfl (fun ls hl => ?_)
                          have hl : lv_has ls 7 [(6, .int (nI ((lvr T.2 V.2 x (y + 1)) + 1))), (0, .ref (g 0)), (1, .int (nI a)), (2, .int (nI b)), (3, .int (nI 25)), (4, .int (nI (x + 1))), (5, .int (nI (y + 1)))] := hl
                          refine lv_aload_n (pc := 160) hx hb d_M_distance_160 rfl (lv_at hl 1 rfl) ?_
                          refine mg_tb (pc := 161) hC hw d_M_distance_161 ?_
                          refine lv_iload_n (pc := 164) hx hb d_M_distance_164 rfl (lv_at hl 4 rfl) ?_
                          refine lv_iload (pc := 165) hx hb d_M_distance_165 (lv_at hl 5 rfl) ?_
                          refine lv_imul (pc := 167) hx hb d_M_distance_167 ?_
                          refine g_top (y := nI (25 * (x + 1))) (pk_mul _ _) ?_
                          refine lv_iload (pc := 168) hx hb d_M_distance_168 (lv_at hl 6 rfl) ?_
                          refine lv_iadd (pc := 170) hx hb d_M_distance_170 ?_
                          refine g_top (y := nI ((25 * (x + 1)) + (y + 1))) (nI_add _ _) ?_
                          refine lv_iconst (pc := 171) (v := nI 1) hx hb d_M_distance_171 (by decide) ?_
                          refine lv_isub (pc := 172) hx hb d_M_distance_172 ?_
                          refine g_top (y := nI (25 * (x + 1) + y)) ((pk_sub (by omega)).trans (congrArg nI (by omega))) ?_
                          refine ml_tb (pc := 173) (i := 25 * (x + 1) + y) (by omega) hC hw d_M_distance_173 ?_
                          refine g_top (y := nI (lvr T.2 V.2 (x + 1) y)) (he2 y (by omega)) ?_
                          refine lv_iconst (pc := 174) (v := nI 1) hx hb d_M_distance_174 (by decide) ?_
                          refine lv_iadd (pc := 175) hx hb d_M_distance_175 ?_
                          refine g_top (y := nI ((lvr T.2 V.2 (x + 1) y) + 1)) (nI_add _ _) ?_
                          refine lv_iload (pc := 176) hx hb d_M_distance_176 (lv_at hl 0 rfl) ?_
                          refine nc_ge (pc := 178) (tgt := 199) hx hb d_M_distance_178 (by decide) (by omega) (by omega) (fun hc178 => ?_) (fun hc178 => ?_)
                          · exact t199 _ (by rw [show lvr T.2 V.2 (x + 1) (y + 1) = (lvr T.2 V.2 x (y + 1)) + 1 by rw [hss]; omega]; exact (lv_sub hl [1, 2, 3, 4, 5, 6, 0] rfl))
                          · refine lv_aload_n (pc := 181) hx hb d_M_distance_181 rfl (lv_at hl 1 rfl) ?_
                            refine mg_tb (pc := 182) hC hw d_M_distance_182 ?_
                            refine lv_iload_n (pc := 185) hx hb d_M_distance_185 rfl (lv_at hl 4 rfl) ?_
                            refine lv_iload (pc := 186) hx hb d_M_distance_186 (lv_at hl 5 rfl) ?_
                            refine lv_imul (pc := 188) hx hb d_M_distance_188 ?_
                            refine g_top (y := nI (25 * (x + 1))) (pk_mul _ _) ?_
                            refine lv_iload (pc := 189) hx hb d_M_distance_189 (lv_at hl 6 rfl) ?_
                            refine lv_iadd (pc := 191) hx hb d_M_distance_191 ?_
                            refine g_top (y := nI ((25 * (x + 1)) + (y + 1))) (nI_add _ _) ?_
                            refine lv_iconst (pc := 192) (v := nI 1) hx hb d_M_distance_192 (by decide) ?_
                            refine lv_isub (pc := 193) hx hb d_M_distance_193 ?_
                            refine g_top (y := nI (25 * (x + 1) + y)) ((pk_sub (by omega)).trans (congrArg nI (by omega))) ?_
                            refine ml_tb (pc := 194) (i := 25 * (x + 1) + y) (by omega) hC hw d_M_distance_194 ?_
                            refine g_top (y := nI (lvr T.2 V.2 (x + 1) y)) (he2 y (by omega)) ?_
                            refine lv_iconst (pc := 195) (v := nI 1) hx hb d_M_distance_195 (by decide) ?_
                            refine lv_iadd (pc := 196) hx hb d_M_distance_196 ?_
                            refine g_top (y := nI ((lvr T.2 V.2 (x + 1) y) + 1)) (nI_add _ _) ?_
                            refine lv_istore (pc := 197) hx hb d_M_distance_197 hl (by decide) rfl (fun ls hl => ?_)
                            have hl : lv_has ls 7 [(6, .int (nI ((lvr T.2 V.2 (x + 1) y) + 1))), (0, .ref (g 0)), (1, .int (nI a)), (2, .int (nI b)), (3, .int (nI 25)), (4, .int (nI (x + 1))), (5, .int (nI (y + 1)))] := hl
                            exact t199 _ (by rw [show lvr T.2 V.2 (x + 1) (y + 1) = (lvr T.2 V.2 (x + 1) y) + 1 by rw [hss]; omega]; exact (lv_sub hl [1, 2, 3, 4, 5, 6, 0] rfl))
                · have e0 : y = 0 := Nat.eq_zero_of_not_pos (fun q => nI_ne0 q (by omega) hc43)
                  subst e0
                  refine lv_iload (pc := 46) hx hb d_M_distance_46 (lv_at hl 4 rfl) ?_
                  refine lv_goto (pc := 48) (tgt := 54) hx hb d_M_distance_48 (by decide) ?_
                  refine lv_istore (pc := 54) hx hb d_M_distance_54 hl (by decide) rfl (fun ls hl => ?_)
                  have hl : lv_has ls 7 [(6, .int (nI (x + 1))), (0, .ref (g 0)), (1, .int (nI a)), (2, .int (nI b)), (3, .int (nI 25)), (4, .int (nI (x + 1))), (5, .int (nI 0))] := hl
                  refine lv_iload (pc := 56) hx hb d_M_distance_56 (lv_at hl 5 rfl) ?_
                  refine lv_if_le (pc := 58) (tgt := 199) hx hb d_M_distance_58 (by decide) (fun hc58 => ?_) (fun hc58 => ?_)
                  · exact absurd hc58 (nI_nle (by omega) (by omega))
                  · refine lv_iload (pc := 61) hx hb d_M_distance_61 (lv_at hl 6 rfl) ?_
                    refine lv_if_le (pc := 63) (tgt := 199) hx hb d_M_distance_63 (by decide) (fun hc63 => ?_) (fun hc63 => ?_)
                    · exact t199 _ (lv_sub hl [1, 2, 3, 4, 5, 6, 0] rfl)
                    · exact absurd (by decide) hc63
              · have e0 : x = 0 := Nat.eq_zero_of_not_pos (fun q => nI_ne0 q (by omega) hc33)
                subst e0
                refine lv_iload (pc := 36) hx hb d_M_distance_36 (lv_at hl 5 rfl) ?_
                refine lv_goto (pc := 38) (tgt := 54) hx hb d_M_distance_38 (by decide) ?_
                refine lv_istore (pc := 54) hx hb d_M_distance_54 hl (by decide) rfl (fun ls hl => ?_)
                have hl : lv_has ls 7 [(6, .int (nI y)), (0, .ref (g 0)), (1, .int (nI a)), (2, .int (nI b)), (3, .int (nI 25)), (4, .int (nI 0)), (5, .int (nI y))] := hl
                refine lv_iload (pc := 56) hx hb d_M_distance_56 (lv_at hl 5 rfl) ?_
                refine lv_if_le (pc := 58) (tgt := 199) hx hb d_M_distance_58 (by decide) (fun hc58 => ?_) (fun hc58 => ?_)
                · exact t199 _ (lv_sub hl [1, 2, 3, 4, 5, 6, 0] rfl)
                · exact absurd (by decide) hc58
        exact lp3 (V.1 + 2) 0 tb1 _ _ _ (by omega) (lv_sub hl [1, 2, 3, 4, 5, 0] rfl) hw (Nat.zero_le _) hd (fun q hq => absurd hq (Nat.not_lt_zero _))
  exact lp (T.1 + 2) 0 tb _ _ _ (by omega) (lv_sub hl [2, 3, 4, 1, 0] rfl) hw (Nat.zero_le _) (fun r q hr _ => absurd hr (Nat.not_lt_zero _))
set_option maxHeartbeats 4000000 in
set_option maxRecDepth 100000 in
theorem c_M_apart (l : Launch) (D : va_G) (g : Nat → Nat) (k : Nat → ClassId) (tp : Nat → Int32) (tm : Nat → Int32) (sz : Nat → Int32) (wd : Nat → Int32) (wl : Int32) (tb : Nat → Int32) (x : Int32) {n : Nat} {ts : List Tm} (ht : tok ts tm sz) (hlen : ts.length ≤ 150) (h : n ≤ 300) (hby : ∀ i, i < n → by_ok (tp i)) : gMi l y_M_apart (gW y_M_apart b_M_apart 2 (some .int)) (gR 3) D (mT k) (mw g k) [.ref (g 0), .int x] (tp, (nI n), tm, sz, (nI ts.length), wd, wl, tb) (fun r u => (hasT ts x = none ∧ r = -2 ∧ u = (tp, (nI n), tm, sz, (nI ts.length), wd, wl, tb)) ∨ ∃ T, hasT ts x = some T ∧ r = (if isW (fun i => sm (tp i)) n = true then nI (lev T (stm (fun i => sm (tp i)) n)) else -1) ∧ ∃ tm1 sz1 wd1 wl1 tb1, u = (tp, nI 0, tm1, sz1, nI ts.length, wd1, wl1, tb1) ∧ tok ts tm1 sz1) := by
  rcases hasT_cases ts x hlen with ⟨hT, hk⟩ | ⟨j, T, hj, rfl, hj2, hT⟩
  · refine g_starti (by decide) (Nat.le_of_ble_eq_true rfl) ?_
    intro p ev s m args below meth cd A Q ls hC hQ hl hw
    have hx := hC.1.1
    have hb := hC.1.2.1
    have hl : lv_has ls 2 [(0, .ref (g 0)), (1, .int x)] := hl
    refine lv_aload_n (pc := 0) hx hb d_M_apart_0 rfl (lv_at hl 0 rfl) ?_
    refine lv_iload_n (pc := 1) hx hb d_M_apart_1 rfl (lv_at hl 1 rfl) ?_
    refine g_calli (pc := 2) (as := [.int x]) (rest := []) hC hw (c_M_is_n l D g k tp _ tm sz _ wd wl tb hk) lm_M_is f_M_is rfl rfl rfl rfl ⟨by decide, by decide⟩ hl.1 (Nat.le_of_ble_eq_true rfl) d_M_apart_2 (fun r u1 H locs hp hw => ?_)
    obtain ⟨rfl, rfl⟩ := hp
    refine lv_if_ne (pc := 5) (tgt := 11) hx hb d_M_apart_5 (by decide) (fun hc5 => ?_) (fun hc5 => ?_)
    · exact absurd rfl hc5
    · refine lv_bipush (pc := 8) (v := (-2)) hx hb d_M_apart_8 (by decide) ?_
      exact hQ _ _ _ _ _ _ hw (rfl) (Or.inl ⟨hT, rfl, rfl⟩) d_M_apart_10
  · refine g_starti (by decide) (Nat.le_of_ble_eq_true rfl) ?_
    intro p ev s m args below meth cd A Q ls hC hQ hl hw
    have hx := hC.1.1
    have hb := hC.1.2.1
    have hl : lv_has ls 2 [(0, .ref (g 0)), (1, .int (nI j))] := hl
    refine lv_aload_n (pc := 0) hx hb d_M_apart_0 rfl (lv_at hl 0 rfl) ?_
    refine lv_iload_n (pc := 1) hx hb d_M_apart_1 rfl (lv_at hl 1 rfl) ?_
    refine g_calli (pc := 2) (as := [.int (nI j)]) (rest := []) hC hw (c_M_is_y l D g k tp _ tm sz wd wl tb hj hlen) lm_M_is f_M_is rfl rfl rfl rfl ⟨by decide, by decide⟩ hl.1 (Nat.le_of_ble_eq_true rfl) d_M_apart_2 (fun r u1 H locs hp hw => ?_)
    obtain ⟨rfl, rfl⟩ := hp
    refine lv_if_ne (pc := 5) (tgt := 11) hx hb d_M_apart_5 (by decide) (fun hc5 => ?_) (fun hc5 => ?_)
    · refine lv_aload_n (pc := 11) hx hb d_M_apart_11 rfl (lv_at hl 0 rfl) ?_
      refine g_calli (pc := 12) (as := []) (rest := []) hC hw (c_M_oneWord l D g k tp tm sz _ wd wl tb h hby) lm_M_oneWord f_M_oneWord rfl rfl rfl rfl ⟨by decide, by decide⟩ hl.1 (Nat.le_of_ble_eq_true rfl) d_M_apart_12 (fun r u1 H locs hp hw => ?_)
      rcases hp with ⟨hW, rfl, wd1, rfl, hwd⟩ | ⟨hW, rfl, wd1, wl1, rfl⟩
      · refine lv_if_ne (pc := 15) (tgt := 20) hx hb d_M_apart_15 (by decide) (fun hc15 => ?_) (fun hc15 => ?_)
        · refine lv_aload_n (pc := 20) hx hb d_M_apart_20 rfl (lv_at hl 0 rfl) ?_
          refine lv_sipush (pc := 21) (v := nI 150) hx hb d_M_apart_21 (by decide) ?_
          refine lv_iconst (pc := 24) (v := 1) hx hb d_M_apart_24 (by decide) ?_
          refine g_callv (pc := 25) (as := [.int (nI 150), .int 1]) (rest := []) hC hw (c_M_note_y l D g k tp _ tm sz _ wd1 tb (n := n) (j := 150) h (by omega) (fun i hi => by rw [hwd i hi]; exact by_sm (hby i hi))) lm_M_note f_M_note rfl rfl rfl rfl ⟨by decide, by decide⟩ hl.1 (Nat.le_of_ble_eq_true rfl) d_M_apart_25 (fun u1 H locs hp hw => ?_)
          obtain ⟨tm1, sz1, wd2, rfl, hwr⟩ := hp
          have hs := stm_ext (w := wd1) (v := (fun i => sm (tp i))) (n := n) hwd
          have hwr := wrt_ext hwr hs.1 hs.2
          refine lv_aload_n (pc := 28) hx hb d_M_apart_28 rfl (lv_at hl 0 rfl) ?_
          refine lv_iload_n (pc := 29) hx hb d_M_apart_29 rfl (lv_at hl 1 rfl) ?_
          refine lv_sipush (pc := 30) (v := nI 150) hx hb d_M_apart_30 (by decide) ?_
          refine g_calli (pc := 33) (as := [.int (nI j), .int (nI 150)]) (rest := []) hC hw (c_M_distance l D g k tp _ tm1 sz1 _ wd2 _ tb (a := j) (b := 150) (by omega) (by omega) (wrt_keep hwr (by omega) (ht j _ hj2)) (wrt_at hwr)) lm_M_distance f_M_distance rfl rfl rfl rfl ⟨by decide, by decide⟩ hl.1 (Nat.le_of_ble_eq_true rfl) d_M_apart_33 (fun r u1 H locs hp hw => ?_)
          obtain ⟨rfl, tb1, rfl⟩ := hp
          exact hQ _ _ _ _ _ _ hw (rfl) (Or.inr ⟨T, hT, by rw [if_pos hW], tm1, sz1, wd2, _, tb1, rfl, tok_keep ht hwr hlen⟩) d_M_apart_36
        · exact absurd hc15 (by decide)
      · refine lv_if_ne (pc := 15) (tgt := 20) hx hb d_M_apart_15 (by decide) (fun hc15 => ?_) (fun hc15 => ?_)
        · exact absurd rfl hc15
        · refine lv_iconst (pc := 18) (v := (-1)) hx hb d_M_apart_18 (by decide) ?_
          exact hQ _ _ _ _ _ _ hw (rfl) (Or.inr ⟨T, hT, by rw [if_neg (by rw [hW]; decide)], tm, sz, wd1, wl1, tb, rfl, ht⟩) d_M_apart_19
    · exact absurd hc5 (by decide)
set_option maxHeartbeats 4000000 in
set_option maxRecDepth 100000 in
theorem c_M_nearest (l : Launch) (D : va_G) (g : Nat → Nat) (k : Nat → ClassId) (tp : Nat → Int32) (tm : Nat → Int32) (sz : Nat → Int32) (wd : Nat → Int32) (wl : Int32) (tb : Nat → Int32) {n : Nat} {ts : List Tm} (ht : tok ts tm sz) (hlen : ts.length ≤ 150) (h : n ≤ 300) (hby : ∀ i, i < n → by_ok (tp i)) : gMi l y_M_nearest (gW y_M_nearest b_M_nearest 5 (some .int)) (gR 3) D (mT k) (mw g k) [.ref (g 0)] (tp, (nI n), tm, sz, (nI ts.length), wd, wl, tb) (fun r u => r = (if isW (fun i => sm (tp i)) n = true then (nbs ts (stm (fun i => sm (tp i)) n) 100 ts.length).1 else -1) ∧ ∃ tm1 sz1 wd1 wl1 tb1, u = (tp, nI 0, tm1, sz1, nI ts.length, wd1, wl1, tb1) ∧ tok ts tm1 sz1) := by
  refine g_starti (by decide) (Nat.le_of_ble_eq_true rfl) ?_
  intro p ev s m args below meth cd A Q ls hC hQ hl hw
  have hx := hC.1.1
  have hb := hC.1.2.1
  have hl : lv_has ls 5 [(0, .ref (g 0))] := hl
  refine lv_aload_n (pc := 0) hx hb d_M_nearest_0 rfl (lv_at hl 0 rfl) ?_
  refine g_calli (pc := 1) (as := []) (rest := []) hC hw (c_M_oneWord l D g k tp tm sz _ wd wl tb h hby) lm_M_oneWord f_M_oneWord rfl rfl rfl rfl ⟨by decide, by decide⟩ hl.1 (Nat.le_of_ble_eq_true rfl) d_M_nearest_1 (fun r u1 H locs hp hw => ?_)
  rcases hp with ⟨hW, rfl, wd1, rfl, hwd⟩ | ⟨hW, rfl, wd1, wl1, rfl⟩
  · refine lv_if_ne (pc := 4) (tgt := 9) hx hb d_M_nearest_4 (by decide) (fun hc4 => ?_) (fun hc4 => ?_)
    · refine lv_aload_n (pc := 9) hx hb d_M_nearest_9 rfl (lv_at hl 0 rfl) ?_
      refine lv_sipush (pc := 10) (v := nI 150) hx hb d_M_nearest_10 (by decide) ?_
      refine lv_iconst (pc := 13) (v := 1) hx hb d_M_nearest_13 (by decide) ?_
      refine g_callv (pc := 14) (as := [.int (nI 150), .int 1]) (rest := []) hC hw (c_M_note_y l D g k tp _ tm sz _ wd1 tb (n := n) (j := 150) h (by omega) (fun i hi => by rw [hwd i hi]; exact by_sm (hby i hi))) lm_M_note f_M_note rfl rfl rfl rfl ⟨by decide, by decide⟩ hl.1 (Nat.le_of_ble_eq_true rfl) d_M_nearest_14 (fun u1 H locs hp hw => ?_)
      obtain ⟨tm1, sz1, wd2, rfl, hwr⟩ := hp
      have hs := stm_ext (w := wd1) (v := (fun i => sm (tp i))) (n := n) hwd
      have hwr := wrt_ext hwr hs.1 hs.2
      have ht1 := tok_keep ht hwr hlen
      refine lv_bipush (pc := 17) (v := (-2)) hx hb d_M_nearest_17 (by decide) ?_
      refine lv_istore_n (pc := 19) hx hb d_M_nearest_19 rfl hl (by decide) rfl (fun ls hl => ?_)
      have hl : lv_has ls 5 [(1, .int ((-2))), (0, .ref (g 0))] := hl
      refine lv_bipush (pc := 20) (v := nI 100) hx hb d_M_nearest_20 (by decide) ?_
      refine lv_istore_n (pc := 22) hx hb d_M_nearest_22 rfl hl (by decide) rfl (fun ls hl => ?_)
      have hl : lv_has ls 5 [(2, .int (nI 100)), (1, .int ((-2))), (0, .ref (g 0))] := hl
      refine lv_iconst (pc := 23) (v := nI 0) hx hb d_M_nearest_23 (by decide) ?_
      refine lv_istore_n (pc := 24) hx hb d_M_nearest_24 rfl hl (by decide) rfl (fun ls hl => ?_)
      have hl : lv_has ls 5 [(3, .int (nI 0)), (2, .int (nI 100)), (1, .int ((-2))), (0, .ref (g 0))] := hl
      have lp : ∀ (fu : Nat) (a : Nat) (tb1 : Nat → Int32) (ls : Array Slot) (H : Heap) (locs : List Loc), ts.length - a < fu → lv_has ls 5 [(0, .ref (g 0)), (1, .int ((nbs ts (stm (fun i => sm (tp i)) n) 100 a).1)), (2, .int (nI ((nbs ts (stm (fun i => sm (tp i)) n) 100 a).2))), (3, .int (nI a))] → gH D (mw g k) A s.heap (tp, (nI 0), tm1, sz1, (nI ts.length), wd2, (nI n), tb1) H locs → (a ≤ ts.length) → W p l ev (gR 3) s m args below meth cd H locs 0 0 Q (F0 m 25 ls []) := by
        intro fu
        induction fu with
        | zero => intro a tb1 ls H locs hn hl hw ha; exact absurd hn (Nat.not_lt_zero _)
        | succ fu ih =>
          intro a tb1 ls H locs hn hl hw ha
          refine lv_iload_n (pc := 25) hx hb d_M_nearest_25 rfl (lv_at hl 3 rfl) ?_
          refine lv_aload_n (pc := 26) hx hb d_M_nearest_26 rfl (lv_at hl 0 rfl) ?_
          refine mg_ct (pc := 27) hC hw d_M_nearest_27 ?_
          refine nc_ge (pc := 30) (tgt := 63) hx hb d_M_nearest_30 (by decide) (by omega) (by omega) (fun hc30 => ?_) (fun hc30 => ?_)
          · have ei : a = ts.length := by omega
            subst ei
            refine lv_iload_n (pc := 63) hx hb d_M_nearest_63 rfl (lv_at hl 1 rfl) ?_
            exact hQ _ _ _ _ _ _ hw (rfl) (⟨by rw [if_pos hW], tm1, sz1, wd2, _, tb1, rfl, ht1⟩) d_M_nearest_64
          · have hT : ts[a]? = some ts[a] := List.getElem?_eq_getElem (by omega)
            have hb1 := nbs_le ts (stm (fun i => sm (tp i)) n) 100 a
            have hb2 : lev ts[a] (stm (fun i => sm (tp i)) n) ≤ 24 := lev_le (ht1 a _ hT).1 (stm_le _ _)
            refine lv_aload_n (pc := 33) hx hb d_M_nearest_33 rfl (lv_at hl 0 rfl) ?_
            refine lv_iload_n (pc := 34) hx hb d_M_nearest_34 rfl (lv_at hl 3 rfl) ?_
            refine lv_sipush (pc := 35) (v := nI 150) hx hb d_M_nearest_35 (by decide) ?_
            refine g_calli (pc := 38) (as := [.int (nI a), .int (nI 150)]) (rest := []) hC hw (c_M_distance l D g k tp _ tm1 sz1 _ wd2 _ tb1 (a := a) (b := 150) (by omega) (by omega) (ht1 a _ hT) (wrt_at hwr)) lm_M_distance f_M_distance rfl rfl rfl rfl ⟨by decide, by decide⟩ hl.1 (Nat.le_of_ble_eq_true rfl) d_M_nearest_38 (fun r u1 H locs hp hw => ?_)
            obtain ⟨rfl, tb2, rfl⟩ := hp
            refine lv_istore (pc := 41) hx hb d_M_nearest_41 hl (by decide) rfl (fun ls hl => ?_)
            have hl : lv_has ls 5 [(4, .int (nI (lev ts[a] (stm (fun i => sm (tp i)) n)))), (0, .ref (g 0)), (1, .int ((nbs ts (stm (fun i => sm (tp i)) n) 100 a).1)), (2, .int (nI ((nbs ts (stm (fun i => sm (tp i)) n) 100 a).2))), (3, .int (nI a))] := hl
            refine lv_iload (pc := 43) hx hb d_M_nearest_43 (lv_at hl 0 rfl) ?_
            refine lv_iload_n (pc := 45) hx hb d_M_nearest_45 rfl (lv_at hl 3 rfl) ?_
            refine nc_lt (pc := 46) (tgt := 52) hx hb d_M_nearest_46 (by decide) (by omega) (by omega) (fun hc46 => ?_) (fun hc46 => ?_)
            · refine lv_iload_n (pc := 52) hx hb d_M_nearest_52 rfl (lv_at hl 4 rfl) ?_
              refine lv_istore_n (pc := 53) hx hb d_M_nearest_53 rfl hl (by decide) rfl (fun ls hl => ?_)
              have hl : lv_has ls 5 [(1, .int (nI a)), (4, .int (nI (lev ts[a] (stm (fun i => sm (tp i)) n)))), (0, .ref (g 0)), (2, .int (nI ((nbs ts (stm (fun i => sm (tp i)) n) 100 a).2))), (3, .int (nI a))] := hl
              refine lv_iload (pc := 54) hx hb d_M_nearest_54 (lv_at hl 1 rfl) ?_
              refine lv_istore_n (pc := 56) hx hb d_M_nearest_56 rfl hl (by decide) rfl (fun ls hl => ?_)
              have hl : lv_has ls 5 [(2, .int (nI (lev ts[a] (stm (fun i => sm (tp i)) n)))), (1, .int (nI a)), (4, .int (nI (lev ts[a] (stm (fun i => sm (tp i)) n)))), (0, .ref (g 0)), (3, .int (nI a))] := hl
              refine lv_iinc (pc := 57) (k := 4) (v := nI (a + 1)) hx hb d_M_nearest_57 hl rfl (nI_i1 a) (by decide) rfl (fun ls hl => ?_)
              have hl : lv_has ls 5 [(3, .int (nI (a + 1))), (2, .int (nI (lev ts[a] (stm (fun i => sm (tp i)) n)))), (1, .int (nI a)), (4, .int (nI (lev ts[a] (stm (fun i => sm (tp i)) n)))), (0, .ref (g 0))] := hl
              refine lv_goto (pc := 60) (tgt := 25) hx hb d_M_nearest_60 (by decide) ?_
              exact ih (a + 1) tb2 _ _ _ (by omega) (by rw [nbs_y hT (by omega)]; exact (lv_sub hl [4, 2, 1, 0] rfl)) hw (by omega)
            · refine lv_goto (pc := 49) (tgt := 57) hx hb d_M_nearest_49 (by decide) ?_
              refine lv_iinc (pc := 57) (k := 4) (v := nI (a + 1)) hx hb d_M_nearest_57 hl rfl (nI_i1 a) (by decide) rfl (fun ls hl => ?_)
              have hl : lv_has ls 5 [(3, .int (nI (a + 1))), (4, .int (nI (lev ts[a] (stm (fun i => sm (tp i)) n)))), (0, .ref (g 0)), (1, .int ((nbs ts (stm (fun i => sm (tp i)) n) 100 a).1)), (2, .int (nI ((nbs ts (stm (fun i => sm (tp i)) n) 100 a).2)))] := hl
              refine lv_goto (pc := 60) (tgt := 25) hx hb d_M_nearest_60 (by decide) ?_
              exact ih (a + 1) tb2 _ _ _ (by omega) (by rw [nbs_n hT (by omega)]; exact (lv_sub hl [2, 3, 4, 0] rfl)) hw (by omega)
      exact lp (ts.length + 1) 0 tb _ _ _ (by omega) (lv_sub hl [3, 2, 1, 0] rfl) hw (Nat.zero_le _)
    · exact absurd hc4 (by decide)
  · refine lv_if_ne (pc := 4) (tgt := 9) hx hb d_M_nearest_4 (by decide) (fun hc4 => ?_) (fun hc4 => ?_)
    · exact absurd rfl hc4
    · refine lv_iconst (pc := 7) (v := (-1)) hx hb d_M_nearest_7 (by decide) ?_
      exact hQ _ _ _ _ _ _ hw (rfl) (⟨by rw [if_neg (by rw [hW]; decide)], tm, sz, wd1, wl1, tb, rfl, ht⟩) d_M_nearest_8
set_option maxHeartbeats 4000000 in
set_option maxRecDepth 100000 in
theorem c_M_plain (l : Launch) (D : va_G) (g : Nat → Nat) (k : Nat → ClassId) (tp : Nat → Int32) (tm : Nat → Int32) (sz : Nat → Int32) (wd : Nat → Int32) (wl : Int32) (tb : Nat → Int32) {n : Nat} {ts : List Tm} (ht : tok ts tm sz) (hlen : ts.length ≤ 150) (h : n ≤ 300) (hby : ∀ i, i < n → by_ok (tp i)) : gMi l y_M_plain (gW y_M_plain b_M_plain 1 (some .int)) (gR 3) D (mT k) (mw g k) [.ref (g 0)] (tp, (nI n), tm, sz, (nI ts.length), wd, wl, tb) (fun r u => (isW (fun i => sm (tp i)) n = true ∧ ts.length < 150 ∧ r = nI (ts.length + 1) ∧ ∃ tm1 sz1 wd1 wl1, u = (tp, nI 0, tm1, sz1, nI (ts.length + 1), wd1, wl1, tb) ∧ wrt tm sz tm1 sz1 ts.length (pln (fun i => sm (tp i)) n)) ∨ (¬ (isW (fun i => sm (tp i)) n = true ∧ ts.length < 150) ∧ r = -1 ∧ ∃ wd1 wl1, u = (tp, nI 0, tm, sz, nI ts.length, wd1, wl1, tb))) := by
  refine g_starti (by decide) (Nat.le_of_ble_eq_true rfl) ?_
  intro p ev s m args below meth cd A Q ls hC hQ hl hw
  have hx := hC.1.1
  have hb := hC.1.2.1
  have hl : lv_has ls 1 [(0, .ref (g 0))] := hl
  refine lv_aload_n (pc := 0) hx hb d_M_plain_0 rfl (lv_at hl 0 rfl) ?_
  refine g_calli (pc := 1) (as := []) (rest := []) hC hw (c_M_oneWord l D g k tp tm sz _ wd wl tb h hby) lm_M_oneWord f_M_oneWord rfl rfl rfl rfl ⟨by decide, by decide⟩ hl.1 (Nat.le_of_ble_eq_true rfl) d_M_plain_1 (fun r u1 H locs hp hw => ?_)
  rcases hp with ⟨hW, rfl, wd1, rfl, hwd⟩ | ⟨hW, rfl, wd1, wl1, rfl⟩
  · refine lv_if_eq (pc := 4) (tgt := 17) hx hb d_M_plain_4 (by decide) (fun hc4 => ?_) (fun hc4 => ?_)
    · exact absurd hc4 (by decide)
    · refine lv_aload_n (pc := 7) hx hb d_M_plain_7 rfl (lv_at hl 0 rfl) ?_
      refine mg_ct (pc := 8) hC hw d_M_plain_8 ?_
      refine lv_sipush (pc := 11) (v := nI 150) hx hb d_M_plain_11 (by decide) ?_
      refine nc_ne (pc := 14) (tgt := 19) hx hb d_M_plain_14 (by decide) (by omega) (by omega) (fun hc14 => ?_) (fun hc14 => ?_)
      · refine lv_aload_n (pc := 19) hx hb d_M_plain_19 rfl (lv_at hl 0 rfl) ?_
        refine lv_aload_n (pc := 20) hx hb d_M_plain_20 rfl (lv_at hl 0 rfl) ?_
        refine mg_ct (pc := 21) hC hw d_M_plain_21 ?_
        refine lv_iconst (pc := 24) (v := 0) hx hb d_M_plain_24 (by decide) ?_
        refine g_callv (pc := 25) (as := [.int (nI (ts.length)), .int 0]) (rest := []) hC hw (c_M_note_n l D g k tp _ tm sz _ wd1 tb (n := n) (j := ts.length) h (by omega) (fun i hi => by rw [hwd i hi]; exact by_sm (hby i hi))) lm_M_note f_M_note rfl rfl rfl rfl ⟨by decide, by decide⟩ hl.1 (Nat.le_of_ble_eq_true rfl) d_M_plain_25 (fun u1 H locs hp hw => ?_)
        obtain ⟨tm1, sz1, wd2, rfl, hwr⟩ := hp
        have hs := pln_ext (w := wd1) (v := (fun i => sm (tp i))) (n := n) hwd
        refine lv_aload_n (pc := 28) hx hb d_M_plain_28 rfl (lv_at hl 0 rfl) ?_
        refine lv_dup (pc := 29) hx hb d_M_plain_29 rfl ?_
        refine mg_ct (pc := 30) hC hw d_M_plain_30 ?_
        refine lv_iconst (pc := 33) (v := nI 1) hx hb d_M_plain_33 (by decide) ?_
        refine lv_iadd (pc := 34) hx hb d_M_plain_34 ?_
        refine g_top (y := nI (ts.length + 1)) (nI_add _ _) ?_
        refine mp_ct (pc := 35) hC hw d_M_plain_35 (fun H locs hw => ?_)
        have hw : gH D (mw g k) A _ (tp, (nI 0), tm1, sz1, (nI (ts.length + 1)), wd2, (nI n), tb) H locs := hw
        refine lv_aload_n (pc := 38) hx hb d_M_plain_38 rfl (lv_at hl 0 rfl) ?_
        refine mg_ct (pc := 39) hC hw d_M_plain_39 ?_
        exact hQ _ _ _ _ _ _ hw (rfl) (Or.inl ⟨hW, by omega, rfl, tm1, sz1, wd2, _, rfl, wrt_ext hwr hs.1 hs.2⟩) d_M_plain_42
      · refine lv_iconst (pc := 17) (v := (-1)) hx hb d_M_plain_17 (by decide) ?_
        exact hQ _ _ _ _ _ _ hw (rfl) (Or.inr ⟨fun q => absurd q.2 (by omega), rfl, wd1, _, rfl⟩) d_M_plain_18
  · refine lv_if_eq (pc := 4) (tgt := 17) hx hb d_M_plain_4 (by decide) (fun hc4 => ?_) (fun hc4 => ?_)
    · refine lv_iconst (pc := 17) (v := (-1)) hx hb d_M_plain_17 (by decide) ?_
      exact hQ _ _ _ _ _ _ hw (rfl) (Or.inr ⟨fun q => absurd q.1 (by rw [hW]; decide), rfl, wd1, wl1, rfl⟩) d_M_plain_18
    · exact absurd rfl hc4
end
section
/-! THE CLAIM OUT OF ONE WALK OF THE LAW'S BODY. Your part is whole_start (and what it stands on); all else here is the same for every law, but numbers. -/
def R_law : String := "WordTermsLaw"
def lw_P (b : Addr) (xs : List Int32) (args : Array Value) (s : State) : Prop := args = #[.ref b] ∧ s.IntsAt b xs ∧ xs.length ≤ 3072 ∧ (Jvm.Cond.and given_1 narrow_1).before args s = true
def lw_Q (_ : Array Value) (s : State) (o : Outcome) (t : State) : Prop := o = .returned (some (.int 1)) ∧ Framed s o t [] 11 9114
def lw_Z (below : List Frame) (a : Array Value) (s : State) : State → Prop := fun t => ∃ o, t.status = .running ∧ Ended t below o ∧ lw_Q a s o t
/-- the law's own end, with 1 on the stack, nothing written that was there before, its room as the claim has it -/
theorem lw_ret {p : Program} {l : Launch} {e : Env} {s : State} {m : MethodId} {below : List Frame} {meth : Method} {c : Code} {b : Nat} (hx : p.tables.exec = Jvm.exec) (hb : c.code = code) (hr : meth.sig.returnType = ret) (hlocks : meth.locks = false) {pc : Nat} {H : Heap} {ls : Array Slot} (hdg : decode code pc = .ok (.ireturn, 1)) : W p l e room_1 s m #[Value.ref b] below meth c H [] 11 9114 (lw_Z below #[Value.ref b] s) (F0 m pc ls [.int 1]) := by
  intro T hT X
  obtain ⟨fs, hret, hrun, hended, hW, hframe⟩ := X.leave (v := some (.int 1)) (hlocks := hlocks) (fun h => by rw [hr] at h; cases h)
  have hmeth' : T.vm.method? m = some meth := X.method'
  refine ⟨T.setFrames fs, ?_, .returned (some (.int 1)), hrun, hended, rfl, ⟨_, rfl⟩, hW, hframe⟩
  jvm_step X.here [X.here.top, hx, hb, hdg, hmeth', hr, ret, narrow_b1]
  (try refine ⟨rfl, ?_⟩); (try refine ⟨rfl, ?_⟩)
  first | (intro acts; rw [hret _ acts rfl rfl rfl]) | rw [hret _ _ rfl rfl rfl]
  exact Steps.refl _
/-- what holds at the law's entry: the machine, the code, the tables' words (any of lw_tbl by 'hts w (by decide +kernel)'), the script of L ints xs at the cell b, what the Statement gives of the start (any of its parts by flat_of_before) -/
def lw_At (p : Program) (s : State) (m : MethodId) (meth : Method) (c : Code) (b L : Nat) (xs : Nat → Int32) : Prop :=
  p.tables.exec = Jvm.exec ∧ c.code = code ∧ meth.sig.returnType = ret ∧ c.maxLocals = 4 ∧ s.vm.findClass R_law = some m.cls ∧ (∀ w ∈ lw_tbl, w.before #[Value.ref b] s = true) ∧ va_X b L xs s s.heap ∧ b < s.heap.size ∧ meth.locks = false ∧ (Jvm.Cond.and given_1 narrow_1).before #[Value.ref b] s = true
set_option maxHeartbeats 4000000 in
set_option maxRecDepth 100000 in
theorem c_X_init (l : Launch) (D : va_G) (h0 sz : Nat) : Met l y_X_init (gW y_X_init b_X_init 1 none) ({ frames := 1, cells := 4, slots := 4100, locals := 32 }) (va_Pc [.ref h0] (fun U => U.heap.size = sz ∧ va_P D classes [(h0, .inr (0, [.null, .int 0, .null, .null, .int 0, .null]))] U.heap ∧ va_K D classes [] U ∧ va_D (fun _ => True) [(h0, .inr (0, [.null, .int 0, .null, .null, .int 0, .null]))])) (va_Qv (fun _ : Unit => True) (fun _ t => ∃ (g : Nat → Nat) (k : Nat → ClassId), g 0 = h0 ∧ va_P D classes (xw g k (fun _ => 0, nI 0, fun _ => 0, fun _ => 0, nI 0, fun _ => 0)) t.heap ∧ va_K D classes (xT k) t ∧ va_D (va_A [(h0, .inr (0, [.null, .int 0, .null, .null, .int 0, .null]))] sz) (xw g k (fun _ => 0, nI 0, fun _ => 0, fun _ => 0, nI 0, fun _ => 0))) (va_A [(h0, .inr (0, [.null, .int 0, .null, .null, .int 0, .null]))] sz)) 4 4100 (va_A [(h0, .inr (0, [.null, .int 0, .null, .null, .int 0, .null]))] sz) := by
  refine Met.ofW (cc := b_X_init) (maxL := 1) (ret := none) (by decide) rfl ?_
  intro p ev s m args below meth cd s₁ B hml hv
  obtain ⟨rfl, hsz, hP, hK, hD0⟩ := hv
  have hx := B.exec
  have hb := B.bytes
  have hr := B.returns
  have hts0 := atoms_spec (ws := gW y_X_init b_X_init 1 none) B.pre
  have hts : ∀ w ∈ gT, w.before [Value.ref h0].toArray s = true := fun w hw => hts0 w (List.mem_cons_of_mem _ hw)
  have hown : s.vm.findClass R_X = some m.cls := findClass_of_methodNamed B.named
  have hlocks := B.notSynchronized
  have hin : meth.name = "<init>" := (name_of_methodNamed B.named B.method).1
  subst hsz
  have hD := hD0.self (sz := s.heap.size)
  generalize hAe : va_A [(h0, .inr (0, [.null, .int 0, .null, .null, .int 0, .null]))] s.heap.size = A at hD ⊢
  have hA : ∀ q : Nat, s.heap.size ≤ q → A q := fun q h => by rw [← hAe]; exact Or.inr h
  have hS : va_S A s.heap s.heap [] := va_S.rf
  have hP : va_P D classes [(h0, .inr (0, [.null, .int 0, .null, .null, .int 0, .null]))] s.heap := hP
  have hl := lv_entry ([.ref h0]) (n := 1) (Nat.le_of_ble_eq_true rfl)
  rw [lg_entry_eq]
  generalize (lg_sl ([.ref h0]) ++ List.replicate (1 - (lg_sl ([.ref h0])).length) Slot.unset).toArray = ls at hl ⊢
  have hl : lv_has ls 1 [(0, .ref h0)] := hl
  refine lv_aload_n (pc := 0) hx hb d_X_init_0 rfl (lv_at hl 0 rfl) ?_
  refine W.objInit hx hb hown (hts _ lm_X_objectInit) (hts _ i_objectInit_im) (hts _ i_objectInit_code) rfl (by rw [hml]; exact hl.1) rfl d_X_init_1 (Nat.le_of_ble_eq_true rfl) (Nat.le_of_ble_eq_true rfl) ?_
  refine W.eq (g2 := F0 m 4 ls []) rfl ?_
  refine lv_aload_n (pc := 4) hx hb d_X_init_4 rfl (lv_at hl 0 rfl) ?_
  refine lv_sipush (pc := 5) (v := nI 300) hx hb d_X_init_5 (by decide) ?_
  refine va_newa (pc := 8) (atype := .byte) (D := D) (cl := classes) (a0 := (300, .inl (fun _ => 0))) hx hb (hts _ i_arr_byte) rfl hK hP hD hS hA (fun _ => rfl) (by decide) (by decide) (by decide) (by decide) (by decide) d_X_init_8 (fun q8 c8 H hK hP hD hS => ?_)
  have hK : va_K D classes [(c8, .byte)] s := hK
  have hP : va_P D classes [(h0, .inr (0, [.null, .int 0, .null, .null, .int 0, .null])), (q8, .inl (c8, 300, .inl (fun _ => 0)))] H := hP
  have hD : va_D A [(h0, .inr (0, [.null, .int 0, .null, .null, .int 0, .null])), (q8, .inl (c8, 300, .inl (fun _ => 0)))] := hD
  refine va_putF (pc := 10) (D := D) (cl := classes) (ci := 0) (v := .ref q8) (ty := .array .byte) (C := R_X) (T := F_X) (N := 6) hx hb hts hin_X t_X t_X_ok n_X hown hK hP hD hS 0 rfl rfl 0 (by decide) (hts _ lk_X_tape) (fun _ h9 => h9) rfl hin rfl (by decide +kernel) rfl rfl (Nat.le_of_ble_eq_true rfl) d_X_init_10 (fun H locs hP hD hS => ?_)
  have hP : va_P D classes [(h0, .inr (0, [.ref q8, .int 0, .null, .null, .int 0, .null])), (q8, .inl (c8, 300, .inl (fun _ => 0)))] H := hP
  have hD : va_D A [(h0, .inr (0, [.ref q8, .int 0, .null, .null, .int 0, .null])), (q8, .inl (c8, 300, .inl (fun _ => 0)))] := hD
  refine lv_aload_n (pc := 13) hx hb d_X_init_13 rfl (lv_at hl 0 rfl) ?_
  refine lv_iconst (pc := 14) (v := 0) hx hb d_X_init_14 (by decide) ?_
  refine va_put (pc := 15) (D := D) (cl := classes) (ci := 0) (v := .int 0) (ty := .int) (C := R_X) (T := F_X) (N := 6) hx hb hts hin_X t_X t_X_ok n_X hown hK hP hD hS 0 rfl rfl 1 (by decide) (hts _ lk_X_tapeLength) (fun _ h9 => h9) rfl (by decide +kernel) rfl rfl (Nat.le_of_ble_eq_true rfl) d_X_init_15 (fun H locs hP hD hS => ?_)
  have hP : va_P D classes [(h0, .inr (0, [.ref q8, .int 0, .null, .null, .int 0, .null])), (q8, .inl (c8, 300, .inl (fun _ => 0)))] H := hP
  have hD : va_D A [(h0, .inr (0, [.ref q8, .int 0, .null, .null, .int 0, .null])), (q8, .inl (c8, 300, .inl (fun _ => 0)))] := hD
  refine lv_aload_n (pc := 18) hx hb d_X_init_18 rfl (lv_at hl 0 rfl) ?_
  refine lv_sipush (pc := 19) (v := nI 3624) hx hb d_X_init_19 (by decide) ?_
  refine va_newa (pc := 22) (atype := .byte) (D := D) (cl := classes) (a0 := (3624, .inl (fun _ => 0))) hx hb (hts _ i_arr_byte) rfl hK hP hD hS hA (fun _ => rfl) (by decide) (by decide) (by decide) (by decide) (by decide) d_X_init_22 (fun q22 c22 H hK hP hD hS => ?_)
  have hK : va_K D classes [(c8, .byte), (c22, .byte)] s := hK
  have hP : va_P D classes [(h0, .inr (0, [.ref q8, .int 0, .null, .null, .int 0, .null])), (q8, .inl (c8, 300, .inl (fun _ => 0))), (q22, .inl (c22, 3624, .inl (fun _ => 0)))] H := hP
  have hD : va_D A [(h0, .inr (0, [.ref q8, .int 0, .null, .null, .int 0, .null])), (q8, .inl (c8, 300, .inl (fun _ => 0))), (q22, .inl (c22, 3624, .inl (fun _ => 0)))] := hD
  refine va_putF (pc := 24) (D := D) (cl := classes) (ci := 0) (v := .ref q22) (ty := .array .byte) (C := R_X) (T := F_X) (N := 6) hx hb hts hin_X t_X t_X_ok n_X hown hK hP hD hS 0 rfl rfl 2 (by decide) (hts _ lk_X_signs) (fun _ h9 => h9) rfl hin rfl (by decide +kernel) rfl rfl (Nat.le_of_ble_eq_true rfl) d_X_init_24 (fun H locs hP hD hS => ?_)
  have hP : va_P D classes [(h0, .inr (0, [.ref q8, .int 0, .ref q22, .null, .int 0, .null])), (q8, .inl (c8, 300, .inl (fun _ => 0))), (q22, .inl (c22, 3624, .inl (fun _ => 0)))] H := hP
  have hD : va_D A [(h0, .inr (0, [.ref q8, .int 0, .ref q22, .null, .int 0, .null])), (q8, .inl (c8, 300, .inl (fun _ => 0))), (q22, .inl (c22, 3624, .inl (fun _ => 0)))] := hD
  refine lv_aload_n (pc := 27) hx hb d_X_init_27 rfl (lv_at hl 0 rfl) ?_
  refine lv_sipush (pc := 28) (v := nI 151) hx hb d_X_init_28 (by decide) ?_
  refine va_newa (pc := 31) (atype := .int) (D := D) (cl := classes) (a0 := (151, .inl (fun _ => 0))) hx hb (hts _ i_arr_int) rfl hK hP hD hS hA (fun _ => rfl) (by decide) (by decide) (by decide) (by decide) (by decide) d_X_init_31 (fun q31 c31 H hK hP hD hS => ?_)
  have hK : va_K D classes [(c8, .byte), (c22, .byte), (c31, .int)] s := hK
  have hP : va_P D classes [(h0, .inr (0, [.ref q8, .int 0, .ref q22, .null, .int 0, .null])), (q8, .inl (c8, 300, .inl (fun _ => 0))), (q22, .inl (c22, 3624, .inl (fun _ => 0))), (q31, .inl (c31, 151, .inl (fun _ => 0)))] H := hP
  have hD : va_D A [(h0, .inr (0, [.ref q8, .int 0, .ref q22, .null, .int 0, .null])), (q8, .inl (c8, 300, .inl (fun _ => 0))), (q22, .inl (c22, 3624, .inl (fun _ => 0))), (q31, .inl (c31, 151, .inl (fun _ => 0)))] := hD
  refine va_putF (pc := 33) (D := D) (cl := classes) (ci := 0) (v := .ref q31) (ty := .array .int) (C := R_X) (T := F_X) (N := 6) hx hb hts hin_X t_X t_X_ok n_X hown hK hP hD hS 0 rfl rfl 3 (by decide) (hts _ lk_X_lengths) (fun _ h9 => h9) rfl hin rfl (by decide +kernel) rfl rfl (Nat.le_of_ble_eq_true rfl) d_X_init_33 (fun H locs hP hD hS => ?_)
  have hP : va_P D classes [(h0, .inr (0, [.ref q8, .int 0, .ref q22, .ref q31, .int 0, .null])), (q8, .inl (c8, 300, .inl (fun _ => 0))), (q22, .inl (c22, 3624, .inl (fun _ => 0))), (q31, .inl (c31, 151, .inl (fun _ => 0)))] H := hP
  have hD : va_D A [(h0, .inr (0, [.ref q8, .int 0, .ref q22, .ref q31, .int 0, .null])), (q8, .inl (c8, 300, .inl (fun _ => 0))), (q22, .inl (c22, 3624, .inl (fun _ => 0))), (q31, .inl (c31, 151, .inl (fun _ => 0)))] := hD
  refine lv_aload_n (pc := 36) hx hb d_X_init_36 rfl (lv_at hl 0 rfl) ?_
  refine lv_iconst (pc := 37) (v := 0) hx hb d_X_init_37 (by decide) ?_
  refine va_put (pc := 38) (D := D) (cl := classes) (ci := 0) (v := .int 0) (ty := .int) (C := R_X) (T := F_X) (N := 6) hx hb hts hin_X t_X t_X_ok n_X hown hK hP hD hS 0 rfl rfl 4 (by decide) (hts _ lk_X_termCount) (fun _ h9 => h9) rfl (by decide +kernel) rfl rfl (Nat.le_of_ble_eq_true rfl) d_X_init_38 (fun H locs hP hD hS => ?_)
  have hP : va_P D classes [(h0, .inr (0, [.ref q8, .int 0, .ref q22, .ref q31, .int 0, .null])), (q8, .inl (c8, 300, .inl (fun _ => 0))), (q22, .inl (c22, 3624, .inl (fun _ => 0))), (q31, .inl (c31, 151, .inl (fun _ => 0)))] H := hP
  have hD : va_D A [(h0, .inr (0, [.ref q8, .int 0, .ref q22, .ref q31, .int 0, .null])), (q8, .inl (c8, 300, .inl (fun _ => 0))), (q22, .inl (c22, 3624, .inl (fun _ => 0))), (q31, .inl (c31, 151, .inl (fun _ => 0)))] := hD
  refine lv_aload_n (pc := 41) hx hb d_X_init_41 rfl (lv_at hl 0 rfl) ?_
  refine lv_bipush (pc := 42) (v := nI 25) hx hb d_X_init_42 (by decide) ?_
  refine va_newa (pc := 44) (atype := .int) (D := D) (cl := classes) (a0 := (25, .inl (fun _ => 0))) hx hb (hts _ i_arr_int) rfl hK hP hD hS hA (fun _ => rfl) (by decide) (by decide) (by decide) (by decide) (by decide) d_X_init_44 (fun q44 c44 H hK hP hD hS => ?_)
  have hK : va_K D classes [(c8, .byte), (c22, .byte), (c31, .int), (c44, .int)] s := hK
  have hP : va_P D classes [(h0, .inr (0, [.ref q8, .int 0, .ref q22, .ref q31, .int 0, .null])), (q8, .inl (c8, 300, .inl (fun _ => 0))), (q22, .inl (c22, 3624, .inl (fun _ => 0))), (q31, .inl (c31, 151, .inl (fun _ => 0))), (q44, .inl (c44, 25, .inl (fun _ => 0)))] H := hP
  have hD : va_D A [(h0, .inr (0, [.ref q8, .int 0, .ref q22, .ref q31, .int 0, .null])), (q8, .inl (c8, 300, .inl (fun _ => 0))), (q22, .inl (c22, 3624, .inl (fun _ => 0))), (q31, .inl (c31, 151, .inl (fun _ => 0))), (q44, .inl (c44, 25, .inl (fun _ => 0)))] := hD
  refine va_putF (pc := 46) (D := D) (cl := classes) (ci := 0) (v := .ref q44) (ty := .array .int) (C := R_X) (T := F_X) (N := 6) hx hb hts hin_X t_X t_X_ok n_X hown hK hP hD hS 0 rfl rfl 5 (by decide) (hts _ lk_X_distances) (fun _ h9 => h9) rfl hin rfl (by decide +kernel) rfl rfl (Nat.le_of_ble_eq_true rfl) d_X_init_46 (fun H locs hP hD hS => ?_)
  have hP : va_P D classes [(h0, .inr (0, [.ref q8, .int 0, .ref q22, .ref q31, .int 0, .ref q44])), (q8, .inl (c8, 300, .inl (fun _ => 0))), (q22, .inl (c22, 3624, .inl (fun _ => 0))), (q31, .inl (c31, 151, .inl (fun _ => 0))), (q44, .inl (c44, 25, .inl (fun _ => 0)))] H := hP
  have hD : va_D A [(h0, .inr (0, [.ref q8, .int 0, .ref q22, .ref q31, .int 0, .ref q44])), (q8, .inl (c8, 300, .inl (fun _ => 0))), (q22, .inl (c22, 3624, .inl (fun _ => 0))), (q31, .inl (c31, 151, .inl (fun _ => 0))), (q44, .inl (c44, 25, .inl (fun _ => 0)))] := hD
  refine W.widen (k := 4) (n := 4100) (by decide) (by decide) ?_
  exact W.vret hx hb hr (fun t ht hW => ⟨⟨(), rfl, trivial, fun i => [h0, q8, q22, q31, q44].getD i 0, fun i => [c8, c8, c22, c31, c44].getD i c8, rfl, by rw [ht]; exact hP, va_K.moved hW.alike hK, hD⟩, hS.F ht⟩) hS.2.2 d_X_init_49
set_option maxHeartbeats 4000000 in
set_option maxRecDepth 100000 in
theorem c_M_init (l : Launch) (D : va_G) (h0 sz : Nat) : Met l y_M_init (gW y_M_init b_M_init 1 none) ({ frames := 1, cells := 5, slots := 5000, locals := 32 }) (va_Pc [.ref h0] (fun U => U.heap.size = sz ∧ va_P D classes [(h0, .inr (1, [.null, .int 0, .null, .null, .int 0, .null, .int 0, .null]))] U.heap ∧ va_K D classes [] U ∧ va_D (fun _ => True) [(h0, .inr (1, [.null, .int 0, .null, .null, .int 0, .null, .int 0, .null]))])) (va_Qv (fun _ : Unit => True) (fun _ t => ∃ (g : Nat → Nat) (k : Nat → ClassId), g 0 = h0 ∧ va_P D classes (mw g k (fun _ => 0, nI 0, fun _ => 0, fun _ => 0, nI 0, fun _ => 0, nI 0, fun _ => 0)) t.heap ∧ va_K D classes (mT k) t ∧ va_D (va_A [(h0, .inr (1, [.null, .int 0, .null, .null, .int 0, .null, .int 0, .null]))] sz) (mw g k (fun _ => 0, nI 0, fun _ => 0, fun _ => 0, nI 0, fun _ => 0, nI 0, fun _ => 0))) (va_A [(h0, .inr (1, [.null, .int 0, .null, .null, .int 0, .null, .int 0, .null]))] sz)) 5 5000 (va_A [(h0, .inr (1, [.null, .int 0, .null, .null, .int 0, .null, .int 0, .null]))] sz) := by
  refine Met.ofW (cc := b_M_init) (maxL := 1) (ret := none) (by decide) rfl ?_
  intro p ev s m args below meth cd s₁ B hml hv
  obtain ⟨rfl, hsz, hP, hK, hD0⟩ := hv
  have hx := B.exec
  have hb := B.bytes
  have hr := B.returns
  have hts0 := atoms_spec (ws := gW y_M_init b_M_init 1 none) B.pre
  have hts : ∀ w ∈ gT, w.before [Value.ref h0].toArray s = true := fun w hw => hts0 w (List.mem_cons_of_mem _ hw)
  have hown : s.vm.findClass R_M = some m.cls := findClass_of_methodNamed B.named
  have hlocks := B.notSynchronized
  have hin : meth.name = "<init>" := (name_of_methodNamed B.named B.method).1
  subst hsz
  have hD := hD0.self (sz := s.heap.size)
  generalize hAe : va_A [(h0, .inr (1, [.null, .int 0, .null, .null, .int 0, .null, .int 0, .null]))] s.heap.size = A at hD ⊢
  have hA : ∀ q : Nat, s.heap.size ≤ q → A q := fun q h => by rw [← hAe]; exact Or.inr h
  have hS : va_S A s.heap s.heap [] := va_S.rf
  have hP : va_P D classes [(h0, .inr (1, [.null, .int 0, .null, .null, .int 0, .null, .int 0, .null]))] s.heap := hP
  have hl := lv_entry ([.ref h0]) (n := 1) (Nat.le_of_ble_eq_true rfl)
  rw [lg_entry_eq]
  generalize (lg_sl ([.ref h0]) ++ List.replicate (1 - (lg_sl ([.ref h0])).length) Slot.unset).toArray = ls at hl ⊢
  have hl : lv_has ls 1 [(0, .ref h0)] := hl
  refine lv_aload_n (pc := 0) hx hb d_M_init_0 rfl (lv_at hl 0 rfl) ?_
  refine W.objInit hx hb hown (hts _ lm_M_objectInit) (hts _ i_objectInit_im) (hts _ i_objectInit_code) rfl (by rw [hml]; exact hl.1) rfl d_M_init_1 (Nat.le_of_ble_eq_true rfl) (Nat.le_of_ble_eq_true rfl) ?_
  refine W.eq (g2 := F0 m 4 ls []) rfl ?_
  refine lv_aload_n (pc := 4) hx hb d_M_init_4 rfl (lv_at hl 0 rfl) ?_
  refine lv_sipush (pc := 5) (v := nI 300) hx hb d_M_init_5 (by decide) ?_
  refine va_newa (pc := 8) (atype := .byte) (D := D) (cl := classes) (a0 := (300, .inl (fun _ => 0))) hx hb (hts _ i_arr_byte) rfl hK hP hD hS hA (fun _ => rfl) (by decide) (by decide) (by decide) (by decide) (by decide) d_M_init_8 (fun q8 c8 H hK hP hD hS => ?_)
  have hK : va_K D classes [(c8, .byte)] s := hK
  have hP : va_P D classes [(h0, .inr (1, [.null, .int 0, .null, .null, .int 0, .null, .int 0, .null])), (q8, .inl (c8, 300, .inl (fun _ => 0)))] H := hP
  have hD : va_D A [(h0, .inr (1, [.null, .int 0, .null, .null, .int 0, .null, .int 0, .null])), (q8, .inl (c8, 300, .inl (fun _ => 0)))] := hD
  refine va_putF (pc := 10) (D := D) (cl := classes) (ci := 1) (v := .ref q8) (ty := .array .byte) (C := R_M) (T := F_M) (N := 8) hx hb hts hin_M t_M t_M_ok n_M hown hK hP hD hS 0 rfl rfl 0 (by decide) (hts _ lk_M_tape) (fun _ h9 => h9) rfl hin rfl (by decide +kernel) rfl rfl (Nat.le_of_ble_eq_true rfl) d_M_init_10 (fun H locs hP hD hS => ?_)
  have hP : va_P D classes [(h0, .inr (1, [.ref q8, .int 0, .null, .null, .int 0, .null, .int 0, .null])), (q8, .inl (c8, 300, .inl (fun _ => 0)))] H := hP
  have hD : va_D A [(h0, .inr (1, [.ref q8, .int 0, .null, .null, .int 0, .null, .int 0, .null])), (q8, .inl (c8, 300, .inl (fun _ => 0)))] := hD
  refine lv_aload_n (pc := 13) hx hb d_M_init_13 rfl (lv_at hl 0 rfl) ?_
  refine lv_sipush (pc := 14) (v := nI 3624) hx hb d_M_init_14 (by decide) ?_
  refine va_newa (pc := 17) (atype := .byte) (D := D) (cl := classes) (a0 := (3624, .inl (fun _ => 0))) hx hb (hts _ i_arr_byte) rfl hK hP hD hS hA (fun _ => rfl) (by decide) (by decide) (by decide) (by decide) (by decide) d_M_init_17 (fun q17 c17 H hK hP hD hS => ?_)
  have hK : va_K D classes [(c8, .byte), (c17, .byte)] s := hK
  have hP : va_P D classes [(h0, .inr (1, [.ref q8, .int 0, .null, .null, .int 0, .null, .int 0, .null])), (q8, .inl (c8, 300, .inl (fun _ => 0))), (q17, .inl (c17, 3624, .inl (fun _ => 0)))] H := hP
  have hD : va_D A [(h0, .inr (1, [.ref q8, .int 0, .null, .null, .int 0, .null, .int 0, .null])), (q8, .inl (c8, 300, .inl (fun _ => 0))), (q17, .inl (c17, 3624, .inl (fun _ => 0)))] := hD
  refine va_putF (pc := 19) (D := D) (cl := classes) (ci := 1) (v := .ref q17) (ty := .array .byte) (C := R_M) (T := F_M) (N := 8) hx hb hts hin_M t_M t_M_ok n_M hown hK hP hD hS 0 rfl rfl 2 (by decide) (hts _ lk_M_terms) (fun _ h9 => h9) rfl hin rfl (by decide +kernel) rfl rfl (Nat.le_of_ble_eq_true rfl) d_M_init_19 (fun H locs hP hD hS => ?_)
  have hP : va_P D classes [(h0, .inr (1, [.ref q8, .int 0, .ref q17, .null, .int 0, .null, .int 0, .null])), (q8, .inl (c8, 300, .inl (fun _ => 0))), (q17, .inl (c17, 3624, .inl (fun _ => 0)))] H := hP
  have hD : va_D A [(h0, .inr (1, [.ref q8, .int 0, .ref q17, .null, .int 0, .null, .int 0, .null])), (q8, .inl (c8, 300, .inl (fun _ => 0))), (q17, .inl (c17, 3624, .inl (fun _ => 0)))] := hD
  refine lv_aload_n (pc := 22) hx hb d_M_init_22 rfl (lv_at hl 0 rfl) ?_
  refine lv_sipush (pc := 23) (v := nI 151) hx hb d_M_init_23 (by decide) ?_
  refine va_newa (pc := 26) (atype := .int) (D := D) (cl := classes) (a0 := (151, .inl (fun _ => 0))) hx hb (hts _ i_arr_int) rfl hK hP hD hS hA (fun _ => rfl) (by decide) (by decide) (by decide) (by decide) (by decide) d_M_init_26 (fun q26 c26 H hK hP hD hS => ?_)
  have hK : va_K D classes [(c8, .byte), (c17, .byte), (c26, .int)] s := hK
  have hP : va_P D classes [(h0, .inr (1, [.ref q8, .int 0, .ref q17, .null, .int 0, .null, .int 0, .null])), (q8, .inl (c8, 300, .inl (fun _ => 0))), (q17, .inl (c17, 3624, .inl (fun _ => 0))), (q26, .inl (c26, 151, .inl (fun _ => 0)))] H := hP
  have hD : va_D A [(h0, .inr (1, [.ref q8, .int 0, .ref q17, .null, .int 0, .null, .int 0, .null])), (q8, .inl (c8, 300, .inl (fun _ => 0))), (q17, .inl (c17, 3624, .inl (fun _ => 0))), (q26, .inl (c26, 151, .inl (fun _ => 0)))] := hD
  refine va_putF (pc := 28) (D := D) (cl := classes) (ci := 1) (v := .ref q26) (ty := .array .int) (C := R_M) (T := F_M) (N := 8) hx hb hts hin_M t_M t_M_ok n_M hown hK hP hD hS 0 rfl rfl 3 (by decide) (hts _ lk_M_sizes) (fun _ h9 => h9) rfl hin rfl (by decide +kernel) rfl rfl (Nat.le_of_ble_eq_true rfl) d_M_init_28 (fun H locs hP hD hS => ?_)
  have hP : va_P D classes [(h0, .inr (1, [.ref q8, .int 0, .ref q17, .ref q26, .int 0, .null, .int 0, .null])), (q8, .inl (c8, 300, .inl (fun _ => 0))), (q17, .inl (c17, 3624, .inl (fun _ => 0))), (q26, .inl (c26, 151, .inl (fun _ => 0)))] H := hP
  have hD : va_D A [(h0, .inr (1, [.ref q8, .int 0, .ref q17, .ref q26, .int 0, .null, .int 0, .null])), (q8, .inl (c8, 300, .inl (fun _ => 0))), (q17, .inl (c17, 3624, .inl (fun _ => 0))), (q26, .inl (c26, 151, .inl (fun _ => 0)))] := hD
  refine lv_aload_n (pc := 31) hx hb d_M_init_31 rfl (lv_at hl 0 rfl) ?_
  refine lv_sipush (pc := 32) (v := nI 300) hx hb d_M_init_32 (by decide) ?_
  refine va_newa (pc := 35) (atype := .byte) (D := D) (cl := classes) (a0 := (300, .inl (fun _ => 0))) hx hb (hts _ i_arr_byte) rfl hK hP hD hS hA (fun _ => rfl) (by decide) (by decide) (by decide) (by decide) (by decide) d_M_init_35 (fun q35 c35 H hK hP hD hS => ?_)
  have hK : va_K D classes [(c8, .byte), (c17, .byte), (c26, .int), (c35, .byte)] s := hK
  have hP : va_P D classes [(h0, .inr (1, [.ref q8, .int 0, .ref q17, .ref q26, .int 0, .null, .int 0, .null])), (q8, .inl (c8, 300, .inl (fun _ => 0))), (q17, .inl (c17, 3624, .inl (fun _ => 0))), (q26, .inl (c26, 151, .inl (fun _ => 0))), (q35, .inl (c35, 300, .inl (fun _ => 0)))] H := hP
  have hD : va_D A [(h0, .inr (1, [.ref q8, .int 0, .ref q17, .ref q26, .int 0, .null, .int 0, .null])), (q8, .inl (c8, 300, .inl (fun _ => 0))), (q17, .inl (c17, 3624, .inl (fun _ => 0))), (q26, .inl (c26, 151, .inl (fun _ => 0))), (q35, .inl (c35, 300, .inl (fun _ => 0)))] := hD
  refine va_putF (pc := 37) (D := D) (cl := classes) (ci := 1) (v := .ref q35) (ty := .array .byte) (C := R_M) (T := F_M) (N := 8) hx hb hts hin_M t_M t_M_ok n_M hown hK hP hD hS 0 rfl rfl 5 (by decide) (hts _ lk_M_word) (fun _ h9 => h9) rfl hin rfl (by decide +kernel) rfl rfl (Nat.le_of_ble_eq_true rfl) d_M_init_37 (fun H locs hP hD hS => ?_)
  have hP : va_P D classes [(h0, .inr (1, [.ref q8, .int 0, .ref q17, .ref q26, .int 0, .ref q35, .int 0, .null])), (q8, .inl (c8, 300, .inl (fun _ => 0))), (q17, .inl (c17, 3624, .inl (fun _ => 0))), (q26, .inl (c26, 151, .inl (fun _ => 0))), (q35, .inl (c35, 300, .inl (fun _ => 0)))] H := hP
  have hD : va_D A [(h0, .inr (1, [.ref q8, .int 0, .ref q17, .ref q26, .int 0, .ref q35, .int 0, .null])), (q8, .inl (c8, 300, .inl (fun _ => 0))), (q17, .inl (c17, 3624, .inl (fun _ => 0))), (q26, .inl (c26, 151, .inl (fun _ => 0))), (q35, .inl (c35, 300, .inl (fun _ => 0)))] := hD
  refine lv_aload_n (pc := 40) hx hb d_M_init_40 rfl (lv_at hl 0 rfl) ?_
  refine lv_sipush (pc := 41) (v := nI 625) hx hb d_M_init_41 (by decide) ?_
  refine va_newa (pc := 44) (atype := .int) (D := D) (cl := classes) (a0 := (625, .inl (fun _ => 0))) hx hb (hts _ i_arr_int) rfl hK hP hD hS hA (fun _ => rfl) (by decide) (by decide) (by decide) (by decide) (by decide) d_M_init_44 (fun q44 c44 H hK hP hD hS => ?_)
  have hK : va_K D classes [(c8, .byte), (c17, .byte), (c26, .int), (c35, .byte), (c44, .int)] s := hK
  have hP : va_P D classes [(h0, .inr (1, [.ref q8, .int 0, .ref q17, .ref q26, .int 0, .ref q35, .int 0, .null])), (q8, .inl (c8, 300, .inl (fun _ => 0))), (q17, .inl (c17, 3624, .inl (fun _ => 0))), (q26, .inl (c26, 151, .inl (fun _ => 0))), (q35, .inl (c35, 300, .inl (fun _ => 0))), (q44, .inl (c44, 625, .inl (fun _ => 0)))] H := hP
  have hD : va_D A [(h0, .inr (1, [.ref q8, .int 0, .ref q17, .ref q26, .int 0, .ref q35, .int 0, .null])), (q8, .inl (c8, 300, .inl (fun _ => 0))), (q17, .inl (c17, 3624, .inl (fun _ => 0))), (q26, .inl (c26, 151, .inl (fun _ => 0))), (q35, .inl (c35, 300, .inl (fun _ => 0))), (q44, .inl (c44, 625, .inl (fun _ => 0)))] := hD
  refine va_putF (pc := 46) (D := D) (cl := classes) (ci := 1) (v := .ref q44) (ty := .array .int) (C := R_M) (T := F_M) (N := 8) hx hb hts hin_M t_M t_M_ok n_M hown hK hP hD hS 0 rfl rfl 7 (by decide) (hts _ lk_M_table) (fun _ h9 => h9) rfl hin rfl (by decide +kernel) rfl rfl (Nat.le_of_ble_eq_true rfl) d_M_init_46 (fun H locs hP hD hS => ?_)
  have hP : va_P D classes [(h0, .inr (1, [.ref q8, .int 0, .ref q17, .ref q26, .int 0, .ref q35, .int 0, .ref q44])), (q8, .inl (c8, 300, .inl (fun _ => 0))), (q17, .inl (c17, 3624, .inl (fun _ => 0))), (q26, .inl (c26, 151, .inl (fun _ => 0))), (q35, .inl (c35, 300, .inl (fun _ => 0))), (q44, .inl (c44, 625, .inl (fun _ => 0)))] H := hP
  have hD : va_D A [(h0, .inr (1, [.ref q8, .int 0, .ref q17, .ref q26, .int 0, .ref q35, .int 0, .ref q44])), (q8, .inl (c8, 300, .inl (fun _ => 0))), (q17, .inl (c17, 3624, .inl (fun _ => 0))), (q26, .inl (c26, 151, .inl (fun _ => 0))), (q35, .inl (c35, 300, .inl (fun _ => 0))), (q44, .inl (c44, 625, .inl (fun _ => 0)))] := hD
  refine W.widen (k := 5) (n := 5000) (by decide) (by decide) ?_
  exact W.vret hx hb hr (fun t ht hW => ⟨⟨(), rfl, trivial, fun i => [h0, q8, q17, q26, q35, q44].getD i 0, fun i => [c8, c8, c17, c26, c35, c44].getD i c8, rfl, by rw [ht]; exact hP, va_K.moved hW.alike hK, hD⟩, hS.F ht⟩) hS.2.2 d_M_init_49
theorem l_callx {p : Program} {l : Launch} {e : Env} {R : Room} {s : State} {m : MethodId} {args : Array Value} {below : List Frame} {meth : Method} {cd : Code} {H : Heap} {locs : List Loc} {Q : State → Prop} {cc : ByteArray} {nL pc cells slots : Nat} {ls : Array Slot} {D : va_G} {A : Nat → Prop} {g g2 : Nat → Nat} {k k2 : Nat → ClassId} {u : xS} {v : mS} {y : MethodName} {bytes : ByteArray} {maxL index : Nat} {rt : Option FieldType} {rm : Room} {as rest : List Value} {post : Int32 → xS → Prop}
    (hF : CallFix p m cd cc nL s args gT R_law) (hK : va_K D classes (xT k ++ mT k2) s) (hA : ∀ q, s.heap.size ≤ q → A q) (hP : va_P D classes (xw g k u ++ mw g2 k2 v) H) (hD : va_D A (xw g k u ++ mw g2 k2 v)) (hS : va_S A s.heap H locs)
    (hM : gMi l y (gW y bytes maxL rt) rm D (xT k) (xw g k) (.ref (g 0) :: as) u post) (h1 : Cond.methodLink R_law index y ∈ gT) (hY : gY R_X y bytes maxL rt as.length) (hrc : rm.cells = 0) (hrs : rm.slots = 0) (hR : rm.frames + 1 ≤ R.frames ∧ 8 + (maxL + 11) + rm.locals ≤ R.locals) (hf : cells ≤ R.cells ∧ slots ≤ R.slots) (hls : ls.size = nL) (hrm : (rest.map fun v => v.category).sum ≤ 8) (hdg : decode cc pc = .ok (.invokevirtual index, 3))
    (kk : ∀ (r : Int32) (u1 : xS) (H1 : Heap) (locs1 : List Loc), post r u1 → va_P D classes (xw g k u1 ++ mw g2 k2 v) H1 → va_D A (xw g k u1 ++ mw g2 k2 v) → va_S A s.heap H1 locs1 → W p l e R s m args below meth cd H1 locs1 cells slots Q (F0 m (pc + 3) ls (.int r :: rest))) : W p l e R s m args below meth cd H locs cells slots Q (F0 m pc ls (as.reverse ++ .ref (g 0) :: rest)) := by
  have hPc := hP.sub (ws' := xw g k u) [0, 1, 2, 3, 4] rfl
  have hDc := hD.sub (ws' := xw g k u) [0, 1, 2, 3, 4] (by decide) rfl
  have hKc := hK.sub (tys' := xT k) [0, 1, 2, 3] rfl
  have hFc := va_free (wc := xw g k u) hD hS hA [0, 1, 2, 3, 4] rfl
  refine va_calli (va_runV (As := as) (rest := rest) hF (hM H.size) (g_cwV hF.2.2.2.2 h1 hY hrc hrs hR) ⟨fun a U g mk q => ?_, va_recv (q0 := 0) (ci := 0) hKc hPc rfl rfl, fun U hU hW => ?_⟩ rfl rfl hls rfl (lv_room hrm) hdg hf) hS (fun q _ h => hFc q h) hFc (fun r u1 t H1 locs1 ht hvm hp hB hz1 hk1 hS1 => ?_)
  · obtain ⟨q0, q1, qP, qK, qD⟩ := q
    exact ⟨q0, q1, qP, va_K.moved (u := U) (U := U.calling g mk a) (Vm.Alike.refl U.vm) qK, qD⟩
  · exact ⟨rfl, by rw [hU], by rw [hU]; exact hPc, va_K.moved hW.alike hKc, hDc.weaken (fun _ _ _ _ => trivial)⟩
  · obtain ⟨hP1, hK1, hD1⟩ := hB
    rw [ht] at hP1
    obtain ⟨hP2, hD2⟩ := va_join (wr := mw g2 k2 v) (w1 := xw g k u1) hP hD [0, 1, 2, 3, 4] [5, 6, 7, 8, 9, 10] rfl rfl (by decide) (by decide) hk1 hFc hP1 hD1
    exact kk r u1 H1 locs1 hp (hP2.sub (ws' := (xw g k u1 ++ mw g2 k2 v)) [6, 7, 8, 9, 10, 0, 1, 2, 3, 4, 5] rfl) (hD2.sub (ws' := (xw g k u1 ++ mw g2 k2 v)) [6, 7, 8, 9, 10, 0, 1, 2, 3, 4, 5] (by decide) rfl) hS1
theorem l_callm {p : Program} {l : Launch} {e : Env} {R : Room} {s : State} {m : MethodId} {args : Array Value} {below : List Frame} {meth : Method} {cd : Code} {H : Heap} {locs : List Loc} {Q : State → Prop} {cc : ByteArray} {nL pc cells slots : Nat} {ls : Array Slot} {D : va_G} {A : Nat → Prop} {g g2 : Nat → Nat} {k k2 : Nat → ClassId} {u : xS} {v : mS} {y : MethodName} {bytes : ByteArray} {maxL index : Nat} {rt : Option FieldType} {rm : Room} {as rest : List Value} {post : Int32 → mS → Prop}
    (hF : CallFix p m cd cc nL s args gT R_law) (hK : va_K D classes (xT k ++ mT k2) s) (hA : ∀ q, s.heap.size ≤ q → A q) (hP : va_P D classes (xw g k u ++ mw g2 k2 v) H) (hD : va_D A (xw g k u ++ mw g2 k2 v)) (hS : va_S A s.heap H locs)
    (hM : gMi l y (gW y bytes maxL rt) rm D (mT k2) (mw g2 k2) (.ref (g2 0) :: as) v post) (h1 : Cond.methodLink R_law index y ∈ gT) (hY : gY R_M y bytes maxL rt as.length) (hrc : rm.cells = 0) (hrs : rm.slots = 0) (hR : rm.frames + 1 ≤ R.frames ∧ 8 + (maxL + 11) + rm.locals ≤ R.locals) (hf : cells ≤ R.cells ∧ slots ≤ R.slots) (hls : ls.size = nL) (hrm : (rest.map fun v => v.category).sum ≤ 8) (hdg : decode cc pc = .ok (.invokevirtual index, 3))
    (kk : ∀ (r : Int32) (u1 : mS) (H1 : Heap) (locs1 : List Loc), post r u1 → va_P D classes (xw g k u ++ mw g2 k2 u1) H1 → va_D A (xw g k u ++ mw g2 k2 u1) → va_S A s.heap H1 locs1 → W p l e R s m args below meth cd H1 locs1 cells slots Q (F0 m (pc + 3) ls (.int r :: rest))) : W p l e R s m args below meth cd H locs cells slots Q (F0 m pc ls (as.reverse ++ .ref (g2 0) :: rest)) := by
  have hPc := hP.sub (ws' := mw g2 k2 v) [5, 6, 7, 8, 9, 10] rfl
  have hDc := hD.sub (ws' := mw g2 k2 v) [5, 6, 7, 8, 9, 10] (by decide) rfl
  have hKc := hK.sub (tys' := mT k2) [4, 5, 6, 7, 8] rfl
  have hFc := va_free (wc := mw g2 k2 v) hD hS hA [5, 6, 7, 8, 9, 10] rfl
  refine va_calli (va_runV (As := as) (rest := rest) hF (hM H.size) (g_cwV hF.2.2.2.2 h1 hY hrc hrs hR) ⟨fun a U g mk q => ?_, va_recv (q0 := 0) (ci := 1) hKc hPc rfl rfl, fun U hU hW => ?_⟩ rfl rfl hls rfl (lv_room hrm) hdg hf) hS (fun q _ h => hFc q h) hFc (fun r u1 t H1 locs1 ht hvm hp hB hz1 hk1 hS1 => ?_)
  · obtain ⟨q0, q1, qP, qK, qD⟩ := q
    exact ⟨q0, q1, qP, va_K.moved (u := U) (U := U.calling g mk a) (Vm.Alike.refl U.vm) qK, qD⟩
  · exact ⟨rfl, by rw [hU], by rw [hU]; exact hPc, va_K.moved hW.alike hKc, hDc.weaken (fun _ _ _ _ => trivial)⟩
  · obtain ⟨hP1, hK1, hD1⟩ := hB
    rw [ht] at hP1
    obtain ⟨hP2, hD2⟩ := va_join (wr := xw g k u) (w1 := mw g2 k2 u1) hP hD [5, 6, 7, 8, 9, 10] [0, 1, 2, 3, 4] rfl rfl (by decide) (by decide) hk1 hFc hP1 hD1
    exact kk r u1 H1 locs1 hp hP2 hD2 hS1
end
section
theorem l_le {L i : Nat} (hL : L ≤ 3072) (hi : i ≤ 4000) (h : ¬ nI L - nI 6 < nI i) : i + 6 ≤ L := by
  rw [Int32.lt_iff_toInt_lt, pk_sub_toInt (by omega) (by omega), nI_toInt (by omega)] at h
  omega
theorem l_fx {tp t2 : Nat → Int32} {n : Nat} (h : tpr tp t2 n) : ∀ i, i < n → tp i = (fun i => sm (t2 i)) i ∧ by_ok ((fun i => sm (t2 i)) i) := fun i hi => ⟨(h i hi).2, by_sm (h i hi).1⟩
theorem l_fm {tp t2 : Nat → Int32} {n : Nat} (h : tpr tp t2 n) : ∀ i, i < n → by_ok (t2 i) := fun i hi => (h i hi).1
theorem l_tp0 {tp t2 : Nat → Int32} : tpr tp t2 0 := fun i hi => absurd hi (Nat.not_lt_zero _)
set_option maxHeartbeats 8000000 in
set_option maxRecDepth 100000 in
/-- the law's loop -/
theorem l_loop {p : Program} {ev : Env} {s : State} {m : MethodId} {below : List Frame} {meth : Method} {cd : Code} (l : Launch) {b L : Nat} {xs : Nat → Int32} {D : va_G} {A : Nat → Prop} {g g2 : Nat → Nat} {k k2 : Nat → ClassId} (hL : L ≤ 3072) (hx : p.tables.exec = Jvm.exec) (hb : cd.code = code) (hr : meth.sig.returnType = ret) (hml : cd.maxLocals = 4) (hown : s.vm.findClass R_law = some m.cls) (hts : ∀ w ∈ gT, w.before #[Value.ref b] s = true) (hX : va_X b L xs s s.heap) (hbl : b < s.heap.size) (hlk : meth.locks = false) (hK : va_K D classes (xT k ++ mT k2) s) (hA : ∀ q, s.heap.size ≤ q → A q) (hAb : ∀ q, A q → s.heap.size ≤ q) (hbA : ¬ A b) :
    ∀ (fu : Nat) (i n : Nat) (ts : List Tm) (tp sg ln ds t2 tm sz wd : Nat → Int32) (wl : Int32) (tb : Nat → Int32) (ls : Array Slot) (H : Heap) (locs : List Loc), L + 6 - i < fu → lv_has ls 4 [(0, .ref b), (1, .ref (g 0)), (2, .ref (g2 0)), (3, .int (nI i))] → va_P D classes (xw g k (tp, (nI n), sg, ln, (nI ts.length), ds) ++ mw g2 k2 (t2, (nI n), tm, sz, (nI ts.length), wd, wl, tb)) H → va_D A (xw g k (tp, (nI n), sg, ln, (nI ts.length), ds) ++ mw g2 k2 (t2, (nI n), tm, sz, (nI ts.length), wd, wl, tb)) → va_S A s.heap H locs → i ≤ 4000 → n ≤ 300 → ts.length ≤ 150 → tpr tp t2 n → tok ts sg ln → tok ts tm sz → W p l ev room_1 s m #[Value.ref b] below meth cd H locs 11 9114 (lw_Z below #[Value.ref b] s) (F0 m 18 ls []) := by
  intro fu
  induction fu with
  | zero => intro i n ts tp sg ln ds t2 tm sz wd wl tb ls H locs hn; exact absurd hn (Nat.not_lt_zero _)
  | succ fu ih =>
    intro i n ts tp sg ln ds t2 tm sz wd wl tb ls H locs hn hl hP hD hS hi hn3 hlen htp ht hm
    refine lv_iload_n (pc := 18) hx hb d_L_law_18 rfl (lv_at hl 3 rfl) ?_
    refine lv_aload_n (pc := 19) hx hb d_L_law_19 rfl (lv_at hl 0 rfl) ?_
    refine va_slen (pc := 20) hx hb hX hbl hbA hS d_L_law_20 ?_
    refine lv_bipush (pc := 21) (v := nI 6) hx hb d_L_law_21 (by decide) ?_
    refine lv_isub (pc := 23) hx hb d_L_law_23 ?_
    refine g_top (y := nI L - nI 6) (rfl) ?_
    refine lv_icmp_gt (pc := 24) (tgt := 344) hx hb d_L_law_24 (by decide) (fun hc24 => ?_) (fun hc24 => ?_)
    · refine va_forget (fun q hq => hAb _ (hS.2.2 q hq)) ?_
      refine W.widen (k := 11) (n := 9114) (by decide) (by decide) ?_
      refine lv_iconst (pc := 344) (v := 1) hx hb d_L_law_344 (by decide) ?_
      exact lw_ret hx hb hr hlk d_L_law_345
    · have h6 : i + 6 ≤ L := l_le hL hi hc24
      refine lv_aload_n (pc := 27) hx hb d_L_law_27 rfl (lv_at hl 0 rfl) ?_
      refine lv_iload_n (pc := 28) hx hb d_L_law_28 rfl (lv_at hl 3 rfl) ?_
      refine va_sld (pc := 29) hx hb hX hbl hbA hS (vp_in_nI (n := i) (by omega) (by omega)) d_L_law_29 ?_
      refine g_top (y := xs i) (congrArg xs (nI_clamp (by omega))) ?_
      refine lv_bipush (pc := 30) (v := 15) hx hb d_L_law_30 (by decide) ?_
      refine lv_iand (pc := 32) hx hb d_L_law_32 ?_
      obtain ⟨j, hj, ej⟩ := pk_andE (xs i) (m := 15) 4 (by decide)
      refine g_top ej ?_
      have hj2 : j = 0 ∨ j = 1 ∨ j = 2 ∨ j = 3 ∨ j = 4 ∨ j = 5 ∨ j = 6 ∨ j = 7 ∨ j = 8 ∨ j = 9 ∨ 10 ≤ j := by omega
      rcases hj2 with rfl | rfl | rfl | rfl | rfl | rfl | rfl | rfl | rfl | rfl | hj2
      · refine lv_tableIn (pc := 33) (tgt := 88) (off := 55) hx hb d_L_law_33 (by decide) (by decide) (by decide) (by decide) ?_
        refine lv_aload_n (pc := 88) hx hb d_L_law_88 rfl (lv_at hl 1 rfl) ?_
        refine lv_aload_n (pc := 89) hx hb d_L_law_89 rfl (lv_at hl 0 rfl) ?_
        refine lv_iload_n (pc := 90) hx hb d_L_law_90 rfl (lv_at hl 3 rfl) ?_
        refine lv_iconst (pc := 91) (v := nI 1) hx hb d_L_law_91 (by decide) ?_
        refine lv_iadd (pc := 92) hx hb d_L_law_92 ?_
        refine g_top (y := nI (i + 1)) (nI_add _ _) ?_
        refine va_sld (pc := 93) hx hb hX hbl hbA hS (vp_in_nI (n := i + 1) (by omega) (by omega)) d_L_law_93 ?_
        refine g_top (y := xs (i + 1)) (congrArg xs (nI_clamp (by omega))) ?_
        refine lv_aload_n (pc := 94) hx hb d_L_law_94 rfl (lv_at hl 0 rfl) ?_
        refine lv_iload_n (pc := 95) hx hb d_L_law_95 rfl (lv_at hl 3 rfl) ?_
        refine lv_iconst (pc := 96) (v := nI 2) hx hb d_L_law_96 (by decide) ?_
        refine lv_iadd (pc := 97) hx hb d_L_law_97 ?_
        refine g_top (y := nI (i + 2)) (nI_add _ _) ?_
        refine va_sld (pc := 98) hx hb hX hbl hbA hS (vp_in_nI (n := i + 2) (by omega) (by omega)) d_L_law_98 ?_
        refine g_top (y := xs (i + 2)) (congrArg xs (nI_clamp (by omega))) ?_
        refine lv_aload_n (pc := 99) hx hb d_L_law_99 rfl (lv_at hl 0 rfl) ?_
        refine lv_iload_n (pc := 100) hx hb d_L_law_100 rfl (lv_at hl 3 rfl) ?_
        refine lv_iconst (pc := 101) (v := nI 3) hx hb d_L_law_101 (by decide) ?_
        refine lv_iadd (pc := 102) hx hb d_L_law_102 ?_
        refine g_top (y := nI (i + 3)) (nI_add _ _) ?_
        refine va_sld (pc := 103) hx hb hX hbl hbA hS (vp_in_nI (n := i + 3) (by omega) (by omega)) d_L_law_103 ?_
        refine g_top (y := xs (i + 3)) (congrArg xs (nI_clamp (by omega))) ?_
        refine lv_aload_n (pc := 104) hx hb d_L_law_104 rfl (lv_at hl 0 rfl) ?_
        refine lv_iload_n (pc := 105) hx hb d_L_law_105 rfl (lv_at hl 3 rfl) ?_
        refine lv_iconst (pc := 106) (v := nI 4) hx hb d_L_law_106 (by decide) ?_
        refine lv_iadd (pc := 107) hx hb d_L_law_107 ?_
        refine g_top (y := nI (i + 4)) (nI_add _ _) ?_
        refine va_sld (pc := 108) hx hb hX hbl hbA hS (vp_in_nI (n := i + 4) (by omega) (by omega)) d_L_law_108 ?_
        refine g_top (y := xs (i + 4)) (congrArg xs (nI_clamp (by omega))) ?_
        refine lv_aload_n (pc := 109) hx hb d_L_law_109 rfl (lv_at hl 0 rfl) ?_
        refine lv_iload_n (pc := 110) hx hb d_L_law_110 rfl (lv_at hl 3 rfl) ?_
        refine lv_iconst (pc := 111) (v := nI 5) hx hb d_L_law_111 (by decide) ?_
        refine lv_iadd (pc := 112) hx hb d_L_law_112 ?_
        refine g_top (y := nI (i + 5)) (nI_add _ _) ?_
        refine va_sld (pc := 113) hx hb hX hbl hbA hS (vp_in_nI (n := i + 5) (by omega) (by omega)) d_L_law_113 ?_
        refine g_top (y := xs (i + 5)) (congrArg xs (nI_clamp (by omega))) ?_
        refine l_callx (pc := 114) (as := [.int (xs (i + 1)), .int (xs (i + 2)), .int (xs (i + 3)), .int (xs (i + 4)), .int (xs (i + 5))]) (rest := []) ⟨hx, hb, hml, hown, hts⟩ hK hA hP hD hS (c_X_feed l D g k tp sg ln _ ds (xs (i + 1)) (xs (i + 2)) (xs (i + 3)) (xs (i + 4)) (xs (i + 5)) hn3) lm_L_X_feed f_X_feed rfl rfl ⟨by decide, by decide⟩ ⟨by decide, by decide⟩ hl.1 (Nat.le_of_ble_eq_true rfl) d_L_law_114 (fun r1 u1 H locs hp1 hP hD hS => ?_)
        refine lv_aload_n (pc := 117) hx hb d_L_law_117 rfl (lv_at hl 2 rfl) ?_
        refine lv_aload_n (pc := 118) hx hb d_L_law_118 rfl (lv_at hl 0 rfl) ?_
        refine lv_iload_n (pc := 119) hx hb d_L_law_119 rfl (lv_at hl 3 rfl) ?_
        refine lv_iconst (pc := 120) (v := nI 1) hx hb d_L_law_120 (by decide) ?_
        refine lv_iadd (pc := 121) hx hb d_L_law_121 ?_
        refine g_top (y := nI (i + 1)) (nI_add _ _) ?_
        refine va_sld (pc := 122) hx hb hX hbl hbA hS (vp_in_nI (n := i + 1) (by omega) (by omega)) d_L_law_122 ?_
        refine g_top (y := xs (i + 1)) (congrArg xs (nI_clamp (by omega))) ?_
        refine lv_aload_n (pc := 123) hx hb d_L_law_123 rfl (lv_at hl 0 rfl) ?_
        refine lv_iload_n (pc := 124) hx hb d_L_law_124 rfl (lv_at hl 3 rfl) ?_
        refine lv_iconst (pc := 125) (v := nI 2) hx hb d_L_law_125 (by decide) ?_
        refine lv_iadd (pc := 126) hx hb d_L_law_126 ?_
        refine g_top (y := nI (i + 2)) (nI_add _ _) ?_
        refine va_sld (pc := 127) hx hb hX hbl hbA hS (vp_in_nI (n := i + 2) (by omega) (by omega)) d_L_law_127 ?_
        refine g_top (y := xs (i + 2)) (congrArg xs (nI_clamp (by omega))) ?_
        refine lv_aload_n (pc := 128) hx hb d_L_law_128 rfl (lv_at hl 0 rfl) ?_
        refine lv_iload_n (pc := 129) hx hb d_L_law_129 rfl (lv_at hl 3 rfl) ?_
        refine lv_iconst (pc := 130) (v := nI 3) hx hb d_L_law_130 (by decide) ?_
        refine lv_iadd (pc := 131) hx hb d_L_law_131 ?_
        refine g_top (y := nI (i + 3)) (nI_add _ _) ?_
        refine va_sld (pc := 132) hx hb hX hbl hbA hS (vp_in_nI (n := i + 3) (by omega) (by omega)) d_L_law_132 ?_
        refine g_top (y := xs (i + 3)) (congrArg xs (nI_clamp (by omega))) ?_
        refine lv_aload_n (pc := 133) hx hb d_L_law_133 rfl (lv_at hl 0 rfl) ?_
        refine lv_iload_n (pc := 134) hx hb d_L_law_134 rfl (lv_at hl 3 rfl) ?_
        refine lv_iconst (pc := 135) (v := nI 4) hx hb d_L_law_135 (by decide) ?_
        refine lv_iadd (pc := 136) hx hb d_L_law_136 ?_
        refine g_top (y := nI (i + 4)) (nI_add _ _) ?_
        refine va_sld (pc := 137) hx hb hX hbl hbA hS (vp_in_nI (n := i + 4) (by omega) (by omega)) d_L_law_137 ?_
        refine g_top (y := xs (i + 4)) (congrArg xs (nI_clamp (by omega))) ?_
        refine lv_aload_n (pc := 138) hx hb d_L_law_138 rfl (lv_at hl 0 rfl) ?_
        refine lv_iload_n (pc := 139) hx hb d_L_law_139 rfl (lv_at hl 3 rfl) ?_
        refine lv_iconst (pc := 140) (v := nI 5) hx hb d_L_law_140 (by decide) ?_
        refine lv_iadd (pc := 141) hx hb d_L_law_141 ?_
        refine g_top (y := nI (i + 5)) (nI_add _ _) ?_
        refine va_sld (pc := 142) hx hb hX hbl hbA hS (vp_in_nI (n := i + 5) (by omega) (by omega)) d_L_law_142 ?_
        refine g_top (y := xs (i + 5)) (congrArg xs (nI_clamp (by omega))) ?_
        refine l_callm (pc := 143) (as := [.int (xs (i + 1)), .int (xs (i + 2)), .int (xs (i + 3)), .int (xs (i + 4)), .int (xs (i + 5))]) (rest := [.int r1]) ⟨hx, hb, hml, hown, hts⟩ hK hA hP hD hS (c_M_feed l D g2 k2 t2 tm sz _ wd wl tb (xs (i + 1)) (xs (i + 2)) (xs (i + 3)) (xs (i + 4)) (xs (i + 5)) hn3) lm_L_M_feed f_M_feed rfl rfl ⟨by decide, by decide⟩ ⟨by decide, by decide⟩ hl.1 (Nat.le_of_ble_eq_true rfl) d_L_law_143 (fun r2 u1 H locs hp2 hP hD hS => ?_)
        rcases hp1 with ⟨ha, rfl, rfl⟩ | ⟨ha, rfl, rfl⟩
        · rcases hp2 with ⟨hb2, rfl, rfl⟩ | ⟨hb2, rfl, rfl⟩
          · refine lv_icmp_eq (pc := 146) (tgt := 338) hx hb d_L_law_146 (by decide) (fun _ => ?_) (fun hne => absurd (rfl) hne)
            refine lv_iinc (pc := 338) (k := 3) (v := nI (i + 6)) hx hb d_L_law_338 hl rfl (nI_i6 i) (by decide) rfl (fun ls hl => ?_)
            have hl : lv_has ls 4 [(3, .int (nI (i + 6))), (0, .ref (b)), (1, .ref (g 0)), (2, .ref (g2 0))] := hl
            refine lv_goto (pc := 341) (tgt := 18) hx hb d_L_law_341 (by decide) ?_
            exact ih (i + 6) n ts tp sg ln ds t2 tm sz wd wl tb _ _ _ (by omega) (lv_sub hl [1, 2, 3, 0] rfl) hP hD hS (by omega) hn3 hlen htp ht hm
          · omega
        · rcases hp2 with ⟨hb2, rfl, rfl⟩ | ⟨hb2, rfl, rfl⟩
          · omega
          · refine lv_icmp_eq (pc := 146) (tgt := 338) hx hb d_L_law_146 (by decide) (fun _ => ?_) (fun hne => absurd (rfl) hne)
            refine lv_iinc (pc := 338) (k := 3) (v := nI (i + 6)) hx hb d_L_law_338 hl rfl (nI_i6 i) (by decide) rfl (fun ls hl => ?_)
            have hl : lv_has ls 4 [(3, .int (nI (i + 6))), (0, .ref (b)), (1, .ref (g 0)), (2, .ref (g2 0))] := hl
            refine lv_goto (pc := 341) (tgt := 18) hx hb d_L_law_341 (by decide) ?_
            exact ih (i + 6) (n + 20) ts _ sg ln ds _ tm sz wd wl tb _ _ _ (by omega) (lv_sub hl [1, 2, 3, 0] rfl) hP hD hS (by omega) hb2 hlen (p20_rel (xs (i + 1)) (xs (i + 2)) (xs (i + 3)) (xs (i + 4)) (xs (i + 5)) htp) ht hm
      · refine lv_tableIn (pc := 33) (tgt := 151) (off := 118) hx hb d_L_law_33 (by decide) (by decide) (by decide) (by decide) ?_
        refine lv_aload_n (pc := 151) hx hb d_L_law_151 rfl (lv_at hl 1 rfl) ?_
        refine lv_aload_n (pc := 152) hx hb d_L_law_152 rfl (lv_at hl 0 rfl) ?_
        refine lv_iload_n (pc := 153) hx hb d_L_law_153 rfl (lv_at hl 3 rfl) ?_
        refine lv_iconst (pc := 154) (v := nI 1) hx hb d_L_law_154 (by decide) ?_
        refine lv_iadd (pc := 155) hx hb d_L_law_155 ?_
        refine g_top (y := nI (i + 1)) (nI_add _ _) ?_
        refine va_sld (pc := 156) hx hb hX hbl hbA hS (vp_in_nI (n := i + 1) (by omega) (by omega)) d_L_law_156 ?_
        refine g_top (y := xs (i + 1)) (congrArg xs (nI_clamp (by omega))) ?_
        refine l_callx (pc := 157) (as := [.int (xs (i + 1))]) (rest := []) ⟨hx, hb, hml, hown, hts⟩ hK hA hP hD hS (c_X_end l D g k tp _ sg ln _ ds (xs (i + 1))) lm_L_X_end f_X_end rfl rfl ⟨by decide, by decide⟩ ⟨by decide, by decide⟩ hl.1 (Nat.le_of_ble_eq_true rfl) d_L_law_157 (fun r1 u1 H locs hp1 hP hD hS => ?_)
        refine lv_aload_n (pc := 160) hx hb d_L_law_160 rfl (lv_at hl 2 rfl) ?_
        refine lv_aload_n (pc := 161) hx hb d_L_law_161 rfl (lv_at hl 0 rfl) ?_
        refine lv_iload_n (pc := 162) hx hb d_L_law_162 rfl (lv_at hl 3 rfl) ?_
        refine lv_iconst (pc := 163) (v := nI 1) hx hb d_L_law_163 (by decide) ?_
        refine lv_iadd (pc := 164) hx hb d_L_law_164 ?_
        refine g_top (y := nI (i + 1)) (nI_add _ _) ?_
        refine va_sld (pc := 165) hx hb hX hbl hbA hS (vp_in_nI (n := i + 1) (by omega) (by omega)) d_L_law_165 ?_
        refine g_top (y := xs (i + 1)) (congrArg xs (nI_clamp (by omega))) ?_
        refine l_callm (pc := 166) (as := [.int (xs (i + 1))]) (rest := [.int r1]) ⟨hx, hb, hml, hown, hts⟩ hK hA hP hD hS (c_M_end l D g2 k2 t2 _ tm sz _ wd wl tb (xs (i + 1))) lm_L_M_end f_M_end rfl rfl ⟨by decide, by decide⟩ ⟨by decide, by decide⟩ hl.1 (Nat.le_of_ble_eq_true rfl) d_L_law_166 (fun r2 u1 H locs hp2 hP hD hS => ?_)
        rcases hp1 with ⟨ha, rfl, rfl⟩ | ⟨ha, ha2, rfl, rfl⟩
        · rcases hp2 with ⟨hb2, rfl, rfl⟩ | ⟨hb2, hb3, rfl, rfl⟩
          · refine lv_icmp_eq (pc := 169) (tgt := 338) hx hb d_L_law_169 (by decide) (fun _ => ?_) (fun hne => absurd (rfl) hne)
            refine lv_iinc (pc := 338) (k := 3) (v := nI (i + 6)) hx hb d_L_law_338 hl rfl (nI_i6 i) (by decide) rfl (fun ls hl => ?_)
            have hl : lv_has ls 4 [(3, .int (nI (i + 6))), (0, .ref (b)), (1, .ref (g 0)), (2, .ref (g2 0))] := hl
            refine lv_goto (pc := 341) (tgt := 18) hx hb d_L_law_341 (by decide) ?_
            exact ih (i + 6) n ts tp sg ln ds t2 tm sz wd wl tb _ _ _ (by omega) (lv_sub hl [1, 2, 3, 0] rfl) hP hD hS (by omega) hn3 hlen htp ht hm
          · exact (ha.elim hb2 (fun z => nl z hb3)).elim
        · rcases hp2 with ⟨hb2, rfl, rfl⟩ | ⟨hb2, hb3, rfl, rfl⟩
          · exact (hb2.elim ha (fun z => nl z ha2)).elim
          · obtain ⟨q, hq, eq⟩ := nI_of ha
            have hqn : q ≤ n := (nI_leI hq (by omega)).mp (by rw [← eq]; exact ha2)
            rw [eq] at hP hD ⊢
            refine lv_icmp_eq (pc := 169) (tgt := 338) hx hb d_L_law_169 (by decide) (fun _ => ?_) (fun hne => absurd (rfl) hne)
            refine lv_iinc (pc := 338) (k := 3) (v := nI (i + 6)) hx hb d_L_law_338 hl rfl (nI_i6 i) (by decide) rfl (fun ls hl => ?_)
            have hl : lv_has ls 4 [(3, .int (nI (i + 6))), (0, .ref (b)), (1, .ref (g 0)), (2, .ref (g2 0))] := hl
            refine lv_goto (pc := 341) (tgt := 18) hx hb d_L_law_341 (by decide) ?_
            exact ih (i + 6) q ts tp sg ln ds t2 tm sz wd wl tb _ _ _ (by omega) (lv_sub hl [1, 2, 3, 0] rfl) hP hD hS (by omega) (by omega) hlen (fun z hz => htp z (by omega)) ht hm
      · refine lv_tableIn (pc := 33) (tgt := 174) (off := 141) hx hb d_L_law_33 (by decide) (by decide) (by decide) (by decide) ?_
        refine lv_aload_n (pc := 174) hx hb d_L_law_174 rfl (lv_at hl 1 rfl) ?_
        refine l_callx (pc := 175) (as := []) (rest := []) ⟨hx, hb, hml, hown, hts⟩ hK hA hP hD hS (c_X_read l D g k tp sg ln _ ds (f := fun i => sm (t2 i)) hn3 (l_fx htp)) lm_L_X_read f_X_read rfl rfl ⟨by decide, by decide⟩ ⟨by decide, by decide⟩ hl.1 (Nat.le_of_ble_eq_true rfl) d_L_law_175 (fun r1 u1 H locs hp1 hP hD hS => ?_)
        refine lv_aload_n (pc := 178) hx hb d_L_law_178 rfl (lv_at hl 2 rfl) ?_
        refine l_callm (pc := 179) (as := []) (rest := [.int r1]) ⟨hx, hb, hml, hown, hts⟩ hK hA hP hD hS (c_M_read l D g2 k2 t2 tm sz _ wd wl tb hn3 (l_fm htp)) lm_L_M_read f_M_read rfl rfl ⟨by decide, by decide⟩ ⟨by decide, by decide⟩ hl.1 (Nat.le_of_ble_eq_true rfl) d_L_law_179 (fun r2 u1 H locs hp2 hP hD hS => ?_)
        obtain ⟨tp1, sg1, ln1, rfl, rfl, hk1⟩ := hp1
        obtain ⟨tm1, sz1, wd1, wl1, rfl, rfl, hk2⟩ := hp2
        refine lv_icmp_eq (pc := 182) (tgt := 338) hx hb d_L_law_182 (by decide) (fun _ => ?_) (fun hne => absurd (rfl) hne)
        refine lv_iinc (pc := 338) (k := 3) (v := nI (i + 6)) hx hb d_L_law_338 hl rfl (nI_i6 i) (by decide) rfl (fun ls hl => ?_)
        have hl : lv_has ls 4 [(3, .int (nI (i + 6))), (0, .ref (b)), (1, .ref (g 0)), (2, .ref (g2 0))] := hl
        refine lv_goto (pc := 341) (tgt := 18) hx hb d_L_law_341 (by decide) ?_
        exact ih (i + 6) 0 (rdT (fun i => sm (t2 i)) n) tp1 sg1 ln1 ds t2 tm1 sz1 wd1 wl1 tb _ _ _ (by omega) (lv_sub hl [1, 2, 3, 0] rfl) hP hD hS (by omega) (Nat.zero_le _) (rdT_len hn3) l_tp0 hk1 hk2
      · refine lv_tableIn (pc := 33) (tgt := 187) (off := 154) hx hb d_L_law_33 (by decide) (by decide) (by decide) (by decide) ?_
        refine lv_aload_n (pc := 187) hx hb d_L_law_187 rfl (lv_at hl 1 rfl) ?_
        refine lv_aload_n (pc := 188) hx hb d_L_law_188 rfl (lv_at hl 0 rfl) ?_
        refine lv_iload_n (pc := 189) hx hb d_L_law_189 rfl (lv_at hl 3 rfl) ?_
        refine lv_iconst (pc := 190) (v := nI 1) hx hb d_L_law_190 (by decide) ?_
        refine lv_iadd (pc := 191) hx hb d_L_law_191 ?_
        refine g_top (y := nI (i + 1)) (nI_add _ _) ?_
        refine va_sld (pc := 192) hx hb hX hbl hbA hS (vp_in_nI (n := i + 1) (by omega) (by omega)) d_L_law_192 ?_
        refine g_top (y := xs (i + 1)) (congrArg xs (nI_clamp (by omega))) ?_
        refine lv_aload_n (pc := 193) hx hb d_L_law_193 rfl (lv_at hl 0 rfl) ?_
        refine lv_iload_n (pc := 194) hx hb d_L_law_194 rfl (lv_at hl 3 rfl) ?_
        refine lv_iconst (pc := 195) (v := nI 2) hx hb d_L_law_195 (by decide) ?_
        refine lv_iadd (pc := 196) hx hb d_L_law_196 ?_
        refine g_top (y := nI (i + 2)) (nI_add _ _) ?_
        refine va_sld (pc := 197) hx hb hX hbl hbA hS (vp_in_nI (n := i + 2) (by omega) (by omega)) d_L_law_197 ?_
        refine g_top (y := xs (i + 2)) (congrArg xs (nI_clamp (by omega))) ?_
        refine l_callx (pc := 198) (as := [.int (xs (i + 1)), .int (xs (i + 2))]) (rest := []) ⟨hx, hb, hml, hown, hts⟩ hK hA hP hD hS (c_X_sign l D g k tp _ ds (xs (i + 1)) (xs (i + 2)) ht hlen) lm_L_X_sign f_X_sign rfl rfl ⟨by decide, by decide⟩ ⟨by decide, by decide⟩ hl.1 (Nat.le_of_ble_eq_true rfl) d_L_law_198 (fun r1 u1 H locs hp1 hP hD hS => ?_)
        refine lv_aload_n (pc := 201) hx hb d_L_law_201 rfl (lv_at hl 2 rfl) ?_
        refine lv_aload_n (pc := 202) hx hb d_L_law_202 rfl (lv_at hl 0 rfl) ?_
        refine lv_iload_n (pc := 203) hx hb d_L_law_203 rfl (lv_at hl 3 rfl) ?_
        refine lv_iconst (pc := 204) (v := nI 1) hx hb d_L_law_204 (by decide) ?_
        refine lv_iadd (pc := 205) hx hb d_L_law_205 ?_
        refine g_top (y := nI (i + 1)) (nI_add _ _) ?_
        refine va_sld (pc := 206) hx hb hX hbl hbA hS (vp_in_nI (n := i + 1) (by omega) (by omega)) d_L_law_206 ?_
        refine g_top (y := xs (i + 1)) (congrArg xs (nI_clamp (by omega))) ?_
        refine lv_aload_n (pc := 207) hx hb d_L_law_207 rfl (lv_at hl 0 rfl) ?_
        refine lv_iload_n (pc := 208) hx hb d_L_law_208 rfl (lv_at hl 3 rfl) ?_
        refine lv_iconst (pc := 209) (v := nI 2) hx hb d_L_law_209 (by decide) ?_
        refine lv_iadd (pc := 210) hx hb d_L_law_210 ?_
        refine g_top (y := nI (i + 2)) (nI_add _ _) ?_
        refine va_sld (pc := 211) hx hb hX hbl hbA hS (vp_in_nI (n := i + 2) (by omega) (by omega)) d_L_law_211 ?_
        refine g_top (y := xs (i + 2)) (congrArg xs (nI_clamp (by omega))) ?_
        refine l_callm (pc := 212) (as := [.int (xs (i + 1)), .int (xs (i + 2))]) (rest := [.int r1]) ⟨hx, hb, hml, hown, hts⟩ hK hA hP hD hS (c_M_sign l D g2 k2 t2 _ tm sz wd wl tb (xs (i + 1)) (xs (i + 2)) hm hlen) lm_L_M_sign f_M_sign rfl rfl ⟨by decide, by decide⟩ ⟨by decide, by decide⟩ hl.1 (Nat.le_of_ble_eq_true rfl) d_L_law_212 (fun r2 u1 H locs hp2 hP hD hS => ?_)
        obtain ⟨rfl, rfl⟩ := hp1
        obtain ⟨rfl, rfl⟩ := hp2
        refine lv_icmp_eq (pc := 215) (tgt := 338) hx hb d_L_law_215 (by decide) (fun _ => ?_) (fun hne => absurd (rfl) hne)
        refine lv_iinc (pc := 338) (k := 3) (v := nI (i + 6)) hx hb d_L_law_338 hl rfl (nI_i6 i) (by decide) rfl (fun ls hl => ?_)
        have hl : lv_has ls 4 [(3, .int (nI (i + 6))), (0, .ref (b)), (1, .ref (g 0)), (2, .ref (g2 0))] := hl
        refine lv_goto (pc := 341) (tgt := 18) hx hb d_L_law_341 (by decide) ?_
        exact ih (i + 6) n ts tp sg ln ds t2 tm sz wd wl tb _ _ _ (by omega) (lv_sub hl [1, 2, 3, 0] rfl) hP hD hS (by omega) hn3 hlen htp ht hm
      · refine lv_tableIn (pc := 33) (tgt := 220) (off := 187) hx hb d_L_law_33 (by decide) (by decide) (by decide) (by decide) ?_
        refine lv_aload_n (pc := 220) hx hb d_L_law_220 rfl (lv_at hl 1 rfl) ?_
        refine l_callx (pc := 221) (as := []) (rest := []) ⟨hx, hb, hml, hown, hts⟩ hK hA hP hD hS (c_X_different l D g k tp _ ds ht hlen) lm_L_X_different f_X_different rfl rfl ⟨by decide, by decide⟩ ⟨by decide, by decide⟩ hl.1 (Nat.le_of_ble_eq_true rfl) d_L_law_221 (fun r1 u1 H locs hp1 hP hD hS => ?_)
        refine lv_aload_n (pc := 224) hx hb d_L_law_224 rfl (lv_at hl 2 rfl) ?_
        refine l_callm (pc := 225) (as := []) (rest := [.int r1]) ⟨hx, hb, hml, hown, hts⟩ hK hA hP hD hS (c_M_different l D g2 k2 t2 _ tm sz wd wl tb hm hlen) lm_L_M_different f_M_different rfl rfl ⟨by decide, by decide⟩ ⟨by decide, by decide⟩ hl.1 (Nat.le_of_ble_eq_true rfl) d_L_law_225 (fun r2 u1 H locs hp2 hP hD hS => ?_)
        obtain ⟨rfl, rfl⟩ := hp1
        obtain ⟨rfl, rfl⟩ := hp2
        refine lv_icmp_eq (pc := 228) (tgt := 338) hx hb d_L_law_228 (by decide) (fun _ => ?_) (fun hne => absurd (rfl) hne)
        refine lv_iinc (pc := 338) (k := 3) (v := nI (i + 6)) hx hb d_L_law_338 hl rfl (nI_i6 i) (by decide) rfl (fun ls hl => ?_)
        have hl : lv_has ls 4 [(3, .int (nI (i + 6))), (0, .ref (b)), (1, .ref (g 0)), (2, .ref (g2 0))] := hl
        refine lv_goto (pc := 341) (tgt := 18) hx hb d_L_law_341 (by decide) ?_
        exact ih (i + 6) n ts tp sg ln ds t2 tm sz wd wl tb _ _ _ (by omega) (lv_sub hl [1, 2, 3, 0] rfl) hP hD hS (by omega) hn3 hlen htp ht hm
      · refine lv_tableIn (pc := 33) (tgt := 233) (off := 200) hx hb d_L_law_33 (by decide) (by decide) (by decide) (by decide) ?_
        refine lv_aload_n (pc := 233) hx hb d_L_law_233 rfl (lv_at hl 1 rfl) ?_
        refine lv_aload_n (pc := 234) hx hb d_L_law_234 rfl (lv_at hl 0 rfl) ?_
        refine lv_iload_n (pc := 235) hx hb d_L_law_235 rfl (lv_at hl 3 rfl) ?_
        refine lv_iconst (pc := 236) (v := nI 1) hx hb d_L_law_236 (by decide) ?_
        refine lv_iadd (pc := 237) hx hb d_L_law_237 ?_
        refine g_top (y := nI (i + 1)) (nI_add _ _) ?_
        refine va_sld (pc := 238) hx hb hX hbl hbA hS (vp_in_nI (n := i + 1) (by omega) (by omega)) d_L_law_238 ?_
        refine g_top (y := xs (i + 1)) (congrArg xs (nI_clamp (by omega))) ?_
        refine l_callx (pc := 239) (as := [.int (xs (i + 1))]) (rest := []) ⟨hx, hb, hml, hown, hts⟩ hK hA hP hD hS (c_X_first l D g k tp _ ds (xs (i + 1)) ht hlen) lm_L_X_first f_X_first rfl rfl ⟨by decide, by decide⟩ ⟨by decide, by decide⟩ hl.1 (Nat.le_of_ble_eq_true rfl) d_L_law_239 (fun r1 u1 H locs hp1 hP hD hS => ?_)
        refine lv_aload_n (pc := 242) hx hb d_L_law_242 rfl (lv_at hl 2 rfl) ?_
        refine lv_aload_n (pc := 243) hx hb d_L_law_243 rfl (lv_at hl 0 rfl) ?_
        refine lv_iload_n (pc := 244) hx hb d_L_law_244 rfl (lv_at hl 3 rfl) ?_
        refine lv_iconst (pc := 245) (v := nI 1) hx hb d_L_law_245 (by decide) ?_
        refine lv_iadd (pc := 246) hx hb d_L_law_246 ?_
        refine g_top (y := nI (i + 1)) (nI_add _ _) ?_
        refine va_sld (pc := 247) hx hb hX hbl hbA hS (vp_in_nI (n := i + 1) (by omega) (by omega)) d_L_law_247 ?_
        refine g_top (y := xs (i + 1)) (congrArg xs (nI_clamp (by omega))) ?_
        refine l_callm (pc := 248) (as := [.int (xs (i + 1))]) (rest := [.int r1]) ⟨hx, hb, hml, hown, hts⟩ hK hA hP hD hS (c_M_first l D g2 k2 t2 _ tm sz wd wl tb (xs (i + 1)) hm hlen) lm_L_M_first f_M_first rfl rfl ⟨by decide, by decide⟩ ⟨by decide, by decide⟩ hl.1 (Nat.le_of_ble_eq_true rfl) d_L_law_248 (fun r2 u1 H locs hp2 hP hD hS => ?_)
        obtain ⟨rfl, rfl⟩ := hp1
        obtain ⟨rfl, rfl⟩ := hp2
        refine lv_icmp_eq (pc := 251) (tgt := 338) hx hb d_L_law_251 (by decide) (fun _ => ?_) (fun hne => absurd (rfl) hne)
        refine lv_iinc (pc := 338) (k := 3) (v := nI (i + 6)) hx hb d_L_law_338 hl rfl (nI_i6 i) (by decide) rfl (fun ls hl => ?_)
        have hl : lv_has ls 4 [(3, .int (nI (i + 6))), (0, .ref (b)), (1, .ref (g 0)), (2, .ref (g2 0))] := hl
        refine lv_goto (pc := 341) (tgt := 18) hx hb d_L_law_341 (by decide) ?_
        exact ih (i + 6) n ts tp sg ln ds t2 tm sz wd wl tb _ _ _ (by omega) (lv_sub hl [1, 2, 3, 0] rfl) hP hD hS (by omega) hn3 hlen htp ht hm
      · refine lv_tableIn (pc := 33) (tgt := 256) (off := 223) hx hb d_L_law_33 (by decide) (by decide) (by decide) (by decide) ?_
        refine lv_aload_n (pc := 256) hx hb d_L_law_256 rfl (lv_at hl 1 rfl) ?_
        refine lv_aload_n (pc := 257) hx hb d_L_law_257 rfl (lv_at hl 0 rfl) ?_
        refine lv_iload_n (pc := 258) hx hb d_L_law_258 rfl (lv_at hl 3 rfl) ?_
        refine lv_iconst (pc := 259) (v := nI 1) hx hb d_L_law_259 (by decide) ?_
        refine lv_iadd (pc := 260) hx hb d_L_law_260 ?_
        refine g_top (y := nI (i + 1)) (nI_add _ _) ?_
        refine va_sld (pc := 261) hx hb hX hbl hbA hS (vp_in_nI (n := i + 1) (by omega) (by omega)) d_L_law_261 ?_
        refine g_top (y := xs (i + 1)) (congrArg xs (nI_clamp (by omega))) ?_
        refine lv_aload_n (pc := 262) hx hb d_L_law_262 rfl (lv_at hl 0 rfl) ?_
        refine lv_iload_n (pc := 263) hx hb d_L_law_263 rfl (lv_at hl 3 rfl) ?_
        refine lv_iconst (pc := 264) (v := nI 2) hx hb d_L_law_264 (by decide) ?_
        refine lv_iadd (pc := 265) hx hb d_L_law_265 ?_
        refine g_top (y := nI (i + 2)) (nI_add _ _) ?_
        refine va_sld (pc := 266) hx hb hX hbl hbA hS (vp_in_nI (n := i + 2) (by omega) (by omega)) d_L_law_266 ?_
        refine g_top (y := xs (i + 2)) (congrArg xs (nI_clamp (by omega))) ?_
        refine l_callx (pc := 267) (as := [.int (xs (i + 1)), .int (xs (i + 2))]) (rest := []) ⟨hx, hb, hml, hown, hts⟩ hK hA hP hD hS (c_X_compare l D g k tp _ ds (xs (i + 1)) (xs (i + 2)) ht hlen) lm_L_X_compare f_X_compare rfl rfl ⟨by decide, by decide⟩ ⟨by decide, by decide⟩ hl.1 (Nat.le_of_ble_eq_true rfl) d_L_law_267 (fun r1 u1 H locs hp1 hP hD hS => ?_)
        refine lv_aload_n (pc := 270) hx hb d_L_law_270 rfl (lv_at hl 2 rfl) ?_
        refine lv_aload_n (pc := 271) hx hb d_L_law_271 rfl (lv_at hl 0 rfl) ?_
        refine lv_iload_n (pc := 272) hx hb d_L_law_272 rfl (lv_at hl 3 rfl) ?_
        refine lv_iconst (pc := 273) (v := nI 1) hx hb d_L_law_273 (by decide) ?_
        refine lv_iadd (pc := 274) hx hb d_L_law_274 ?_
        refine g_top (y := nI (i + 1)) (nI_add _ _) ?_
        refine va_sld (pc := 275) hx hb hX hbl hbA hS (vp_in_nI (n := i + 1) (by omega) (by omega)) d_L_law_275 ?_
        refine g_top (y := xs (i + 1)) (congrArg xs (nI_clamp (by omega))) ?_
        refine lv_aload_n (pc := 276) hx hb d_L_law_276 rfl (lv_at hl 0 rfl) ?_
        refine lv_iload_n (pc := 277) hx hb d_L_law_277 rfl (lv_at hl 3 rfl) ?_
        refine lv_iconst (pc := 278) (v := nI 2) hx hb d_L_law_278 (by decide) ?_
        refine lv_iadd (pc := 279) hx hb d_L_law_279 ?_
        refine g_top (y := nI (i + 2)) (nI_add _ _) ?_
        refine va_sld (pc := 280) hx hb hX hbl hbA hS (vp_in_nI (n := i + 2) (by omega) (by omega)) d_L_law_280 ?_
        refine g_top (y := xs (i + 2)) (congrArg xs (nI_clamp (by omega))) ?_
        refine l_callm (pc := 281) (as := [.int (xs (i + 1)), .int (xs (i + 2))]) (rest := [.int r1]) ⟨hx, hb, hml, hown, hts⟩ hK hA hP hD hS (c_M_compare l D g2 k2 t2 _ tm sz wd wl tb (xs (i + 1)) (xs (i + 2)) hm hlen) lm_L_M_compare f_M_compare rfl rfl ⟨by decide, by decide⟩ ⟨by decide, by decide⟩ hl.1 (Nat.le_of_ble_eq_true rfl) d_L_law_281 (fun r2 u1 H locs hp2 hP hD hS => ?_)
        obtain ⟨rfl, rfl⟩ := hp1
        obtain ⟨rfl, rfl⟩ := hp2
        refine lv_icmp_eq (pc := 284) (tgt := 338) hx hb d_L_law_284 (by decide) (fun _ => ?_) (fun hne => absurd (rfl) hne)
        refine lv_iinc (pc := 338) (k := 3) (v := nI (i + 6)) hx hb d_L_law_338 hl rfl (nI_i6 i) (by decide) rfl (fun ls hl => ?_)
        have hl : lv_has ls 4 [(3, .int (nI (i + 6))), (0, .ref (b)), (1, .ref (g 0)), (2, .ref (g2 0))] := hl
        refine lv_goto (pc := 341) (tgt := 18) hx hb d_L_law_341 (by decide) ?_
        exact ih (i + 6) n ts tp sg ln ds t2 tm sz wd wl tb _ _ _ (by omega) (lv_sub hl [1, 2, 3, 0] rfl) hP hD hS (by omega) hn3 hlen htp ht hm
      · refine lv_tableIn (pc := 33) (tgt := 289) (off := 256) hx hb d_L_law_33 (by decide) (by decide) (by decide) (by decide) ?_
        refine lv_aload_n (pc := 289) hx hb d_L_law_289 rfl (lv_at hl 1 rfl) ?_
        refine lv_aload_n (pc := 290) hx hb d_L_law_290 rfl (lv_at hl 0 rfl) ?_
        refine lv_iload_n (pc := 291) hx hb d_L_law_291 rfl (lv_at hl 3 rfl) ?_
        refine lv_iconst (pc := 292) (v := nI 1) hx hb d_L_law_292 (by decide) ?_
        refine lv_iadd (pc := 293) hx hb d_L_law_293 ?_
        refine g_top (y := nI (i + 1)) (nI_add _ _) ?_
        refine va_sld (pc := 294) hx hb hX hbl hbA hS (vp_in_nI (n := i + 1) (by omega) (by omega)) d_L_law_294 ?_
        refine g_top (y := xs (i + 1)) (congrArg xs (nI_clamp (by omega))) ?_
        refine l_callx (pc := 295) (as := [.int (xs (i + 1))]) (rest := []) ⟨hx, hb, hml, hown, hts⟩ hK hA hP hD hS (c_X_apart l D g k tp ds (f := fun i => sm (t2 i)) (xs (i + 1)) ht hlen hn3 (l_fx htp)) lm_L_X_apart f_X_apart rfl rfl ⟨by decide, by decide⟩ ⟨by decide, by decide⟩ hl.1 (Nat.le_of_ble_eq_true rfl) d_L_law_295 (fun r1 u1 H locs hp1 hP hD hS => ?_)
        refine lv_aload_n (pc := 298) hx hb d_L_law_298 rfl (lv_at hl 2 rfl) ?_
        refine lv_aload_n (pc := 299) hx hb d_L_law_299 rfl (lv_at hl 0 rfl) ?_
        refine lv_iload_n (pc := 300) hx hb d_L_law_300 rfl (lv_at hl 3 rfl) ?_
        refine lv_iconst (pc := 301) (v := nI 1) hx hb d_L_law_301 (by decide) ?_
        refine lv_iadd (pc := 302) hx hb d_L_law_302 ?_
        refine g_top (y := nI (i + 1)) (nI_add _ _) ?_
        refine va_sld (pc := 303) hx hb hX hbl hbA hS (vp_in_nI (n := i + 1) (by omega) (by omega)) d_L_law_303 ?_
        refine g_top (y := xs (i + 1)) (congrArg xs (nI_clamp (by omega))) ?_
        refine l_callm (pc := 304) (as := [.int (xs (i + 1))]) (rest := [.int r1]) ⟨hx, hb, hml, hown, hts⟩ hK hA hP hD hS (c_M_apart l D g2 k2 t2 tm sz wd wl tb (xs (i + 1)) hm hlen hn3 (l_fm htp)) lm_L_M_apart f_M_apart rfl rfl ⟨by decide, by decide⟩ ⟨by decide, by decide⟩ hl.1 (Nat.le_of_ble_eq_true rfl) d_L_law_304 (fun r2 u1 H locs hp2 hP hD hS => ?_)
        rcases hp1 with ⟨ha, rfl, rfl⟩ | ⟨T, ha, rfl, tp1, sg1, ln1, ds1, rfl, hk1⟩
        · rcases hp2 with ⟨hb2, rfl, rfl⟩ | ⟨T, hb2, rfl, tm1, sz1, wd1, wl1, tb1, rfl, hk2⟩
          · refine lv_icmp_eq (pc := 307) (tgt := 338) hx hb d_L_law_307 (by decide) (fun _ => ?_) (fun hne => absurd (rfl) hne)
            refine lv_iinc (pc := 338) (k := 3) (v := nI (i + 6)) hx hb d_L_law_338 hl rfl (nI_i6 i) (by decide) rfl (fun ls hl => ?_)
            have hl : lv_has ls 4 [(3, .int (nI (i + 6))), (0, .ref (b)), (1, .ref (g 0)), (2, .ref (g2 0))] := hl
            refine lv_goto (pc := 341) (tgt := 18) hx hb d_L_law_341 (by decide) ?_
            exact ih (i + 6) n ts tp sg ln ds t2 tm sz wd wl tb _ _ _ (by omega) (lv_sub hl [1, 2, 3, 0] rfl) hP hD hS (by omega) hn3 hlen htp ht hm
          · rw [ha] at hb2; cases hb2
        · rcases hp2 with ⟨hb2, rfl, rfl⟩ | ⟨T2, hb2, rfl, tm1, sz1, wd1, wl1, tb1, rfl, hk2⟩
          · rw [ha] at hb2; cases hb2
          · rw [ha] at hb2
            cases hb2
            refine lv_icmp_eq (pc := 307) (tgt := 338) hx hb d_L_law_307 (by decide) (fun _ => ?_) (fun hne => absurd (rfl) hne)
            refine lv_iinc (pc := 338) (k := 3) (v := nI (i + 6)) hx hb d_L_law_338 hl rfl (nI_i6 i) (by decide) rfl (fun ls hl => ?_)
            have hl : lv_has ls 4 [(3, .int (nI (i + 6))), (0, .ref (b)), (1, .ref (g 0)), (2, .ref (g2 0))] := hl
            refine lv_goto (pc := 341) (tgt := 18) hx hb d_L_law_341 (by decide) ?_
            exact ih (i + 6) 0 ts tp1 sg1 ln1 ds1 t2 tm1 sz1 wd1 wl1 tb1 _ _ _ (by omega) (lv_sub hl [1, 2, 3, 0] rfl) hP hD hS (by omega) (Nat.zero_le _) hlen l_tp0 hk1 hk2
      · refine lv_tableIn (pc := 33) (tgt := 312) (off := 279) hx hb d_L_law_33 (by decide) (by decide) (by decide) (by decide) ?_
        refine lv_aload_n (pc := 312) hx hb d_L_law_312 rfl (lv_at hl 1 rfl) ?_
        refine l_callx (pc := 313) (as := []) (rest := []) ⟨hx, hb, hml, hown, hts⟩ hK hA hP hD hS (c_X_nearest l D g k tp ds (f := fun i => sm (t2 i)) ht hlen hn3 (l_fx htp)) lm_L_X_nearest f_X_nearest rfl rfl ⟨by decide, by decide⟩ ⟨by decide, by decide⟩ hl.1 (Nat.le_of_ble_eq_true rfl) d_L_law_313 (fun r1 u1 H locs hp1 hP hD hS => ?_)
        refine lv_aload_n (pc := 316) hx hb d_L_law_316 rfl (lv_at hl 2 rfl) ?_
        refine l_callm (pc := 317) (as := []) (rest := [.int r1]) ⟨hx, hb, hml, hown, hts⟩ hK hA hP hD hS (c_M_nearest l D g2 k2 t2 tm sz wd wl tb hm hlen hn3 (l_fm htp)) lm_L_M_nearest f_M_nearest rfl rfl ⟨by decide, by decide⟩ ⟨by decide, by decide⟩ hl.1 (Nat.le_of_ble_eq_true rfl) d_L_law_317 (fun r2 u1 H locs hp2 hP hD hS => ?_)
        obtain ⟨rfl, tp1, sg1, ln1, ds1, rfl, hk1⟩ := hp1
        obtain ⟨rfl, tm1, sz1, wd1, wl1, tb1, rfl, hk2⟩ := hp2
        refine lv_icmp_eq (pc := 320) (tgt := 338) hx hb d_L_law_320 (by decide) (fun _ => ?_) (fun hne => absurd (by rw [nbs_eq (fun q V hV => lev_le (ht q V hV).1 (stm_le _ _))]) hne)
        refine lv_iinc (pc := 338) (k := 3) (v := nI (i + 6)) hx hb d_L_law_338 hl rfl (nI_i6 i) (by decide) rfl (fun ls hl => ?_)
        have hl : lv_has ls 4 [(3, .int (nI (i + 6))), (0, .ref (b)), (1, .ref (g 0)), (2, .ref (g2 0))] := hl
        refine lv_goto (pc := 341) (tgt := 18) hx hb d_L_law_341 (by decide) ?_
        exact ih (i + 6) 0 ts tp1 sg1 ln1 ds1 t2 tm1 sz1 wd1 wl1 tb1 _ _ _ (by omega) (lv_sub hl [1, 2, 3, 0] rfl) hP hD hS (by omega) (Nat.zero_le _) hlen l_tp0 hk1 hk2
      · refine lv_tableIn (pc := 33) (tgt := 325) (off := 292) hx hb d_L_law_33 (by decide) (by decide) (by decide) (by decide) ?_
        refine lv_aload_n (pc := 325) hx hb d_L_law_325 rfl (lv_at hl 1 rfl) ?_
        refine l_callx (pc := 326) (as := []) (rest := []) ⟨hx, hb, hml, hown, hts⟩ hK hA hP hD hS (c_X_plain l D g k tp ds (f := fun i => sm (t2 i)) ht hlen hn3 (l_fx htp)) lm_L_X_plain f_X_plain rfl rfl ⟨by decide, by decide⟩ ⟨by decide, by decide⟩ hl.1 (Nat.le_of_ble_eq_true rfl) d_L_law_326 (fun r1 u1 H locs hp1 hP hD hS => ?_)
        refine lv_aload_n (pc := 329) hx hb d_L_law_329 rfl (lv_at hl 2 rfl) ?_
        refine l_callm (pc := 330) (as := []) (rest := [.int r1]) ⟨hx, hb, hml, hown, hts⟩ hK hA hP hD hS (c_M_plain l D g2 k2 t2 tm sz wd wl tb hm hlen hn3 (l_fm htp)) lm_L_M_plain f_M_plain rfl rfl ⟨by decide, by decide⟩ ⟨by decide, by decide⟩ hl.1 (Nat.le_of_ble_eq_true rfl) d_L_law_330 (fun r2 u1 H locs hp2 hP hD hS => ?_)
        rcases hp1 with ⟨ha, ha2, rfl, sg1, ln1, rfl, hk1⟩ | ⟨ha, rfl, rfl⟩
        · rcases hp2 with ⟨hb2, hb3, rfl, tm1, sz1, wd1, wl1, rfl, hk2⟩ | ⟨hb2, rfl, wd1, wl1, rfl⟩
          · have hle : (ts ++ [pln (fun i => sm (t2 i)) n]).length = ts.length + 1 := by rw [List.length_append, List.length_singleton]
            rw [← hle] at hP hD
            refine lv_icmp_eq (pc := 333) (tgt := 338) hx hb d_L_law_333 (by decide) (fun _ => ?_) (fun hne => absurd (rfl) hne)
            refine lv_iinc (pc := 338) (k := 3) (v := nI (i + 6)) hx hb d_L_law_338 hl rfl (nI_i6 i) (by decide) rfl (fun ls hl => ?_)
            have hl : lv_has ls 4 [(3, .int (nI (i + 6))), (0, .ref (b)), (1, .ref (g 0)), (2, .ref (g2 0))] := hl
            refine lv_goto (pc := 341) (tgt := 18) hx hb d_L_law_341 (by decide) ?_
            exact ih (i + 6) 0 (ts ++ [pln (fun i => sm (t2 i)) n]) tp sg1 ln1 ds t2 tm1 sz1 wd1 wl1 tb _ _ _ (by omega) (lv_sub hl [1, 2, 3, 0] rfl) hP hD hS (by omega) (Nat.zero_le _) (by rw [hle]; omega) l_tp0 (tok_push ht hk1) (tok_push hm hk2)
          · exact absurd ⟨ha, ha2⟩ hb2
        · rcases hp2 with ⟨hb2, hb3, rfl, tm1, sz1, wd1, wl1, rfl, hk2⟩ | ⟨hb2, rfl, wd1, wl1, rfl⟩
          · exact absurd ⟨hb2, hb3⟩ ha
          · refine lv_icmp_eq (pc := 333) (tgt := 338) hx hb d_L_law_333 (by decide) (fun _ => ?_) (fun hne => absurd (rfl) hne)
            refine lv_iinc (pc := 338) (k := 3) (v := nI (i + 6)) hx hb d_L_law_338 hl rfl (nI_i6 i) (by decide) rfl (fun ls hl => ?_)
            have hl : lv_has ls 4 [(3, .int (nI (i + 6))), (0, .ref (b)), (1, .ref (g 0)), (2, .ref (g2 0))] := hl
            refine lv_goto (pc := 341) (tgt := 18) hx hb d_L_law_341 (by decide) ?_
            exact ih (i + 6) 0 ts tp sg ln ds t2 tm sz wd1 wl1 tb _ _ _ (by omega) (lv_sub hl [1, 2, 3, 0] rfl) hP hD hS (by omega) (Nat.zero_le _) hlen l_tp0 ht hm
      · refine lv_tableOut (pc := 33) (tgt := 338) hx hb d_L_law_33 (Or.inr (by rw [nI_toInt (by omega)]; omega)) (by decide) ?_
        refine lv_iinc (pc := 338) (k := 3) (v := nI (i + 6)) hx hb d_L_law_338 hl rfl (nI_i6 i) (by decide) rfl (fun ls hl => ?_)
        have hl : lv_has ls 4 [(3, .int (nI (i + 6))), (0, .ref (b)), (1, .ref (g 0)), (2, .ref (g2 0))] := hl
        refine lv_goto (pc := 341) (tgt := 18) hx hb d_L_law_341 (by decide) ?_
        exact ih (i + 6) n ts tp sg ln ds t2 tm sz wd wl tb _ _ _ (by omega) (lv_sub hl [1, 2, 3, 0] rfl) hP hD hS (by omega) hn3 hlen htp ht hm
end
section
set_option maxHeartbeats 8000000 in
set_option maxRecDepth 100000 in
/-- YOUR PART: from the entry, for every script of at most 3072 ints, the law comes to its end with true -/
theorem whole_start {p : Program} {e : Env} {s : State} {m : MethodId} {below : List Frame} {meth : Method} {c : Code} (l : Launch) {b L : Nat} {xs : Nat → Int32} (hL : L ≤ 3072) (C0 : lw_At p s m meth c b L xs) : W p l e room_1 s m #[Value.ref b] below meth c s.heap [] 0 0 (lw_Z below #[Value.ref b] s) (entryFrame m ([Value.ref b] : List Value).toArray 4) := by
  obtain ⟨hx, hb, hr, hml, hown, hts, hX, hbl, hlk, -⟩ := C0
  have hts : ∀ w ∈ gT, w.before #[Value.ref b] s = true := fun w hw => hts w (List.mem_filter.mp hw).1
  obtain ⟨cX, iX, hKX⟩ := u_known (C := R_X) (T := F_X) (N := 6) hts hin_X (hts _ i_inst_X)
  obtain ⟨cM, iM, hKM⟩ := u_known (C := R_M) (T := F_M) (N := 8) hts hin_M (hts _ i_inst_M)
  obtain ⟨D, hK⟩ : ∃ D : va_G, va_K D classes [] s := by
    refine ⟨(fun q => if q = 0 then cX else cM, fun q => if q = 0 then iX else iM), fun q r hq => ?_, fun q r hq => by simp at hq⟩
    have hq2 := (List.getElem?_eq_some_iff.mp hq).1
    have hq3 : q = 0 ∨ q = 1 := by
      have : classes.length = 2 := rfl
      omega
    rcases hq3 with rfl | rfl
    · cases hq
      exact hKX
    · cases hq
      exact hKM
  obtain ⟨A, hAd⟩ : ∃ A : Nat → Prop, A = fun q => s.heap.size ≤ q := ⟨_, rfl⟩
  have hA : ∀ q, s.heap.size ≤ q → A q := fun q h => by rw [hAd]; exact h
  have hAb : ∀ q, A q → s.heap.size ≤ q := fun q h => by rw [hAd] at h; exact h
  have hbA : ¬ A b := fun h => absurd (hAb b h) (Nat.not_le.mpr hbl)
  have hP : va_P D classes [] s.heap := fun q r h => by simp at h
  have hD : va_D A [] := ⟨fun q r a c h => by simp at h, fun q r h => by simp at h⟩
  have hS : va_S A s.heap s.heap [] := va_S.rf
  have hl := lv_entry ([.ref b]) (n := 4) (Nat.le_of_ble_eq_true rfl)
  rw [lg_entry_eq]
  generalize (lg_sl ([Value.ref b]) ++ List.replicate (4 - (lg_sl ([Value.ref b])).length) Slot.unset).toArray = ls at hl ⊢
  have hl : lv_has ls 4 [(0, .ref b)] := hl
  refine va_new (pc := 0) (D := D) (cl := classes) (ci := 0) (fs := [.null, .int 0, .null, .null, .int 0, .null]) (C := R_X) (T := F_X) (N := 6) hx hb hts hin_X t_X t_X_ok hown (hts _ i_clink_X) (hts _ i_inst_X) (hts _ i_init_X) hK hP hD hS hA rfl (fun j hj => by rcases (show j = 0 ∨ j = 1 ∨ j = 2 ∨ j = 3 ∨ j = 4 ∨ j = 5 by omega) with rfl | rfl | rfl | rfl | rfl | rfl <;> rfl) (by decide) (by decide) d_L_law_0 (fun q0 H hP hD hS => ?_)
  have hP : va_P D classes [(q0, .inr (0, [.null, .int 0, .null, .null, .int 0, .null]))] H := hP
  have hD : va_D A [(q0, .inr (0, [.null, .int 0, .null, .null, .int 0, .null]))] := hD
  refine lv_dup (pc := 3) hx hb d_L_law_3 rfl ?_
  have hPc := hP.sub (ws' := [(q0, .inr (0, [.null, .int 0, .null, .null, .int 0, .null]))]) [0] rfl
  have hDc := hD.sub (ws' := [(q0, .inr (0, [.null, .int 0, .null, .null, .int 0, .null]))]) [0] (by decide) rfl
  have hKc := hK.sub (tys' := []) [] rfl
  have hFc := va_free (wc := [(q0, .inr (0, [.null, .int 0, .null, .null, .int 0, .null]))]) hD hS hA [0] rfl
  refine va_callv (va_runI (As := []) (rest := [.ref q0]) ⟨hx, hb, hml, hown, hts⟩ (c_X_init l D q0 _) (cwI 0 hts (g_good (gW_in i_code_X_init)) rfl rfl rfl (hts _ i_init_X) (hts _ lm_L_X_init) (hts _ i_im_X_init) rfl (by decide +kernel) ⟨by decide, by decide⟩) ⟨fun a U g mk q => by obtain ⟨q0, q1, qP, qK, qD⟩ := q; exact ⟨q0, q1, qP, va_K.moved (u := U) (U := U.calling g mk a) (Vm.Alike.refl U.vm) qK, qD⟩, fun U hU hW => ⟨rfl, by rw [hU], by rw [hU]; exact hPc, va_K.moved hW.alike hKc, hDc.weaken (fun _ _ _ _ => trivial)⟩⟩ rfl rfl hl.1 rfl (lv_room (Nat.le_of_ble_eq_true rfl)) d_L_law_4 ⟨by decide, by decide⟩) hS (fun q _ h => hFc q h) hFc (fun u t H1 locs ht hvm hp hB hz1 hk1 hS5 => ?_)
  obtain ⟨g, k, hg, hP1, hK1, hD1⟩ := hB
  rw [ht] at hP1
  have hK1 := va_K.moved hvm.symm hK1
  obtain ⟨hP2, hD2⟩ := va_join (wr := []) (w1 := xw g k (fun _ => 0, nI 0, fun _ => 0, fun _ => 0, nI 0, fun _ => 0)) hP hD [0] [] rfl rfl (by decide) (by decide) hk1 hFc hP1 hD1
  have hK : va_K D classes (xT k) s := hK1
  subst hg
  have hS := hS5
  have hP : va_P D classes (xw g k (fun _ => 0, nI 0, fun _ => 0, fun _ => 0, nI 0, fun _ => 0)) H1 := hP2
  have hD : va_D A (xw g k (fun _ => 0, nI 0, fun _ => 0, fun _ => 0, nI 0, fun _ => 0)) := hD2
  refine lv_astore_n (pc := 7) hx hb d_L_law_7 rfl hl (by decide) rfl (fun ls hl => ?_)
  have hl : lv_has ls 4 [(1, .ref (g 0)), (0, .ref b)] := hl
  refine va_new (pc := 8) (D := D) (cl := classes) (ci := 1) (fs := [.null, .int 0, .null, .null, .int 0, .null, .int 0, .null]) (C := R_M) (T := F_M) (N := 8) hx hb hts hin_M t_M t_M_ok hown (hts _ i_clink_M) (hts _ i_inst_M) (hts _ i_init_M) hK hP hD hS hA rfl (fun j hj => by rcases (show j = 0 ∨ j = 1 ∨ j = 2 ∨ j = 3 ∨ j = 4 ∨ j = 5 ∨ j = 6 ∨ j = 7 by omega) with rfl | rfl | rfl | rfl | rfl | rfl | rfl | rfl <;> rfl) (by decide) (by decide) d_L_law_8 (fun q8 H hP hD hS => ?_)
  have hP : va_P D classes (xw g k (fun _ => 0, nI 0, fun _ => 0, fun _ => 0, nI 0, fun _ => 0) ++ [(q8, .inr (1, [.null, .int 0, .null, .null, .int 0, .null, .int 0, .null]))]) H := hP
  have hD : va_D A (xw g k (fun _ => 0, nI 0, fun _ => 0, fun _ => 0, nI 0, fun _ => 0) ++ [(q8, .inr (1, [.null, .int 0, .null, .null, .int 0, .null, .int 0, .null]))]) := hD
  refine lv_dup (pc := 11) hx hb d_L_law_11 rfl ?_
  have hPc := hP.sub (ws' := [(q8, .inr (1, [.null, .int 0, .null, .null, .int 0, .null, .int 0, .null]))]) [5] rfl
  have hDc := hD.sub (ws' := [(q8, .inr (1, [.null, .int 0, .null, .null, .int 0, .null, .int 0, .null]))]) [5] (by decide) rfl
  have hKc := hK.sub (tys' := []) [] rfl
  have hFc := va_free (wc := [(q8, .inr (1, [.null, .int 0, .null, .null, .int 0, .null, .int 0, .null]))]) hD hS hA [5] rfl
  refine va_callv (va_runI (As := []) (rest := [.ref q8]) ⟨hx, hb, hml, hown, hts⟩ (c_M_init l D q8 _) (cwI 0 hts (g_good (gW_in i_code_M_init)) rfl rfl rfl (hts _ i_init_M) (hts _ lm_L_M_init) (hts _ i_im_M_init) rfl (by decide +kernel) ⟨by decide, by decide⟩) ⟨fun a U g mk q => by obtain ⟨q0, q1, qP, qK, qD⟩ := q; exact ⟨q0, q1, qP, va_K.moved (u := U) (U := U.calling g mk a) (Vm.Alike.refl U.vm) qK, qD⟩, fun U hU hW => ⟨rfl, by rw [hU], by rw [hU]; exact hPc, va_K.moved hW.alike hKc, hDc.weaken (fun _ _ _ _ => trivial)⟩⟩ rfl rfl hl.1 rfl (lv_room (Nat.le_of_ble_eq_true rfl)) d_L_law_12 ⟨by decide, by decide⟩) hS (fun q _ h => hFc q h) hFc (fun u t H1 locs ht hvm hp hB hz1 hk1 hS5 => ?_)
  obtain ⟨g2, k2, hg, hP1, hK1, hD1⟩ := hB
  rw [ht] at hP1
  have hK1 := va_K.moved hvm.symm hK1
  obtain ⟨hP3, hD3⟩ := va_join (wr := xw g k (fun _ => 0, nI 0, fun _ => 0, fun _ => 0, nI 0, fun _ => 0)) (w1 := mw g2 k2 (fun _ => 0, nI 0, fun _ => 0, fun _ => 0, nI 0, fun _ => 0, nI 0, fun _ => 0)) hP hD [5] [0, 1, 2, 3, 4] rfl rfl (by decide) (by decide) hk1 hFc hP1 hD1
  have hK : va_K D classes (xT k ++ mT k2) s := hK.app hK1
  subst hg
  refine lv_astore_n (pc := 15) hx hb d_L_law_15 rfl hl (by decide) rfl (fun ls hl => ?_)
  have hl : lv_has ls 4 [(2, .ref (g2 0)), (1, .ref (g 0)), (0, .ref b)] := hl
  refine lv_iconst (pc := 16) (v := nI 0) hx hb d_L_law_16 (by decide) ?_
  refine lv_istore_n (pc := 17) hx hb d_L_law_17 rfl hl (by decide) rfl (fun ls hl => ?_)
  have hl : lv_has ls 4 [(3, .int (nI 0)), (2, .ref (g2 0)), (1, .ref (g 0)), (0, .ref b)] := hl
  refine W.widen (k := 11) (n := 9114) (by decide) (by decide) ?_
  exact l_loop l hL hx hb hr hml hown hts hX hbl hlk hK hA hAb hbA (L + 7) 0 0 [] _ _ _ _ _ _ _ _ _ _ _ _ _ (by omega) (lv_sub hl [3, 2, 1, 0] rfl) hP3 hD3 hS5 (by omega) (Nat.zero_le _) (Nat.zero_le _) l_tp0 tok_nil tok_nil
end
section
set_option maxHeartbeats 4000000 in
theorem lw_walk (l : Launch) (b : Addr) (xs : List Int32) : MetFree l x (headSpec (Jvm.Cond.code x code maxLocals ret :: tables_1) room_1) (lw_P b xs) (fun _ _ _ _ _ => True) lw_Q := by
  refine MetFree.of_bodyS (code := code) (maxLocals := maxLocals) (ret := ret) (by decide) ?_ ?_
  · intro args s m h hn
    obtain ⟨meth, c, h1, h2, h3, h4, h5, h6, -, -⟩ := Cond.code_spec hn (atoms_spec (ws := Jvm.Cond.code x code maxLocals ret :: tables_1) h _ List.mem_cons_self)
    exact ⟨meth, c, h1, h2, h3, h4, h5, h6⟩
  · intro p e s m args below meth c s₁ B hml0 hP _
    obtain ⟨rfl, hx, hbd, hgv⟩ := hP
    obtain ⟨scr, harrAt, hlist, hof, hsmall⟩ := hx
    obtain ⟨hcb, hkn, -, -⟩ := State.arrayAt?_spec harrAt
    have hown : s.vm.findClass R_law = some m.cls := findClass_of_methodNamed B.named
    have hts0 : ∀ c ∈ (Jvm.Cond.code x code maxLocals ret :: tables_1), c.before #[Value.ref b] s = true := atoms_spec (ws := Jvm.Cond.code x code maxLocals ret :: tables_1) B.pre
    have hts : ∀ w ∈ lw_tbl, w.before #[Value.ref b] s = true := k2_hts_sels lw_privs (fun w hw => hts0 w (List.mem_cons_of_mem _ hw)) lw_privs_ok
    have hml : c.maxLocals = 4 := B.maxLocals_eq (hts0 _ List.mem_cons_self)
    have X₀ : Stand p l e room_1 s m #[Value.ref b] below meth c s₁ [] 0 0 := Stand.of_body B
    have hh0 : s₁.heap = s.heap := by rw [B.state]; rfl
    have hsz : scr.slots.size = xs.length := by rw [← Array.length_toList, hlist, List.length_map]
    have hval : ∀ j : Nat, j < xs.length → scr.slots[j]? = some (.int (xs.getD j 0)) := fun j hj => by
      rw [← Array.getElem?_toList, hlist]
      simp [hj]
    have hbl : b < s.heap.size := (Array.getElem?_eq_some_iff.mp hcb).1
    have hX : va_X b xs.length (fun j => xs.getD j 0) s s.heap := ⟨scr, hcb, hof, hkn, hsz, hval⟩
    have K : W p l e room_1 s m #[Value.ref b] below meth c s₁.heap [] 0 0 (lw_Z below #[Value.ref b] s) (entryFrame m ([Value.ref b] : List Value).toArray 4) := by
      rw [hh0]
      exact whole_start l hbd ⟨B.exec, B.bytes, B.returns, hml, hown, hts, hX, hbl, B.notSynchronized, hgv⟩
    obtain ⟨t, a1, o, b1, b2, b3⟩ := K s₁ rfl X₀
    exact ⟨t, o, a1, b1, b2, b3⟩
theorem lw_pre_spec {args : Array Value} {s : State} (h : (Jvm.Cond.and given_1 narrow_1).before args s = true) (hr : rest_1_c.before args s = true) : ∃ (b : Addr) (xs : List Int32), lw_P b xs args s := by
  have hs := flat_of_before _ h
  have hq := flat_of_before _ hr
  have hc : (Cond.count 1).before args s = true := hs _ (by decide +kernel)
  have harr : (Cond.arrayOf (.arg 0) .int).before args s = true := hs _ (by decide +kernel)
  have hle : (Cond.le (.length (.arg 0)) (.int 3072)).before args s = true := hs _ (by decide +kernel)
  have hlen : (Cond.isInt (.length (.arg 0))).before args s = true := hq _ (by decide +kernel)
  have hall : (Cond.all (.arg 0) (.isInt (.elem (.arg 0) (.index 0)))).before args s = true := hq _ (by decide +kernel)
  obtain ⟨b, xs, hb, hx⟩ := State.ints_of_pre rfl harr hlen hall
  have hsm : xs.length < 2 ^ 31 := hx.choose_spec.2.2.2
  have hev : (Term.length (.arg 0)).eval args s none [] s = some (.int xs.length.toInt32) := hx.length_eval hb
  have hv := Cond.le_ints hev (show (Term.int 3072).eval args s none [] s = some (.int 3072) from rfl)
  have hd : xs.length.toInt32 ≤ 3072 := by
    simpa [Cond.before, Cond.holds, hv] using hle
  have hN : xs.length ≤ 3072 := (Int32.ofNat_le_ofNat hsm (by decide)).mp (show Int32.ofNat xs.length ≤ Int32.ofNat 3072 from hd)
  exact ⟨b, xs, Cond.one_arg hc (show args[0]? = some (.ref b) from hb), hx, hN, h⟩
theorem lw_comes (l : Launch) : Comes l x (Jvm.Cond.code x code maxLocals ret :: tables_1) room_1 (fun tb e args s => Calls_1 tb e args s ∧ rest_1 tb e args s ∧ Pre_1 tb e args s)
    (fun _ _ args s o t => lw_Q args s o t) := by
  intro p e ha hc hk s m args below hf hfit hheap happ hpre
  obtain ⟨b, xs, hP⟩ := lw_pre_spec hpre.2.2 hpre.2.1
  obtain ⟨k, o, h1, h2, h3, hQ⟩ := lw_walk l b xs p e ha hc hk s m args below hf ((Spec.applies_iff_loose hf).mp happ).1 hP trivial
  exact ⟨k, o, h1, h2, h3, hQ⟩
theorem lw_frame {s t : State} {o : Outcome} {args : Array Value} (h : Framed s o t [] 11 9114) :
    Framed s o t (fieldLocs frame_1_writes args s ++ arrayLocs frame_1_arrays args s ++ staticLocs frame_1_statics s) 11 9114 := h
theorem lw_limb (L : Cond) (hL : ∀ (args : Array Value) (s t : State), L.after args s (.returned (some (.int 1))) t = true) :
    ArmFor flags0 classFile x code maxLocals ret World_1 tables_1 room_1 Calls_1 rest_1 Pre_1
      (fun tb e a s o t => postC L tb e a s o t ∧ Framed s o t (fieldLocs frame_1_writes a s ++ arrayLocs frame_1_arrays a s ++ staticLocs frame_1_statics s) 11 9114) := by
  intro l _ _ _ p e ha hc hk s m args below hf hfit hheap happ hpre
  obtain ⟨k, o, h1, h2, h3, rfl, hF⟩ := lw_comes l p e ha hc hk s m args below hf hfit hheap happ hpre
  exact ⟨k, _, h1, h2, h3, hL args s _, lw_frame hF⟩
theorem i_vc : Claimed_1_1 ∧ Claimed_1_2 := ⟨lw_limb limb_1_1 (fun args s t => by simp [limb_1_1, Cond.after, Cond.holds, Cond.value]), lw_limb limb_1_2 (fun args s t => Cond.after_iff.mpr (by
  first | (rw [show limb_1_2 = Cond.eq .result (.int 1) from rfl, Cond.eq_ints (x := 1) (y := 1) rfl rfl]; simp; done) | (simp [limb_1_2, Cond.value, Term.eval]; done)))⟩
end
