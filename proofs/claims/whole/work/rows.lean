section
-- ===== PART A: goes FIRST, ahead of the names: the tables' words, and 'selects' of the private methods out of them =====
/-- a private method of a class that the tables say can be made, by its rows of tables_1 -/
def lw_okq (q : MethodName × Nat) : Prop := (q.1.cls ≠ "java/lang/invoke/MethodHandle" ∧ q.1.cls ≠ "java/lang/invoke/VarHandle") ∧ Cond.instantiable q.1.cls q.2 ∈ tables_1 ∧ Cond.privateMethod q.1 ∈ tables_1 ∧ Cond.instanceMethod q.1 ∈ tables_1
theorem lw_p0 : lw_okq (⟨"WordTerms", "putFour", "(I)V"⟩, 6) := ⟨⟨by decide +kernel, by decide +kernel⟩, List.mem_of_getElem? (i := 7) (by decide +kernel), List.mem_of_getElem? (i := 40) (by decide +kernel), List.mem_of_getElem? (i := 41) (by decide +kernel)⟩
theorem lw_p1 : lw_okq (⟨"WordTerms", "addTerm", "(II)V"⟩, 6) := ⟨⟨by decide +kernel, by decide +kernel⟩, List.mem_of_getElem? (i := 7) (by decide +kernel), List.mem_of_getElem? (i := 58) (by decide +kernel), List.mem_of_getElem? (i := 59) (by decide +kernel)⟩
theorem lw_p2 : lw_okq (⟨"WordTerms", "writeTerm", "(III)V"⟩, 6) := ⟨⟨by decide +kernel, by decide +kernel⟩, List.mem_of_getElem? (i := 7) (by decide +kernel), List.mem_of_getElem? (i := 62) (by decide +kernel), List.mem_of_getElem? (i := 63) (by decide +kernel)⟩
theorem lw_p3 : lw_okq (⟨"WordTerms", "endsWithIes", "(I)Z"⟩, 6) := ⟨⟨by decide +kernel, by decide +kernel⟩, List.mem_of_getElem? (i := 7) (by decide +kernel), List.mem_of_getElem? (i := 66) (by decide +kernel), List.mem_of_getElem? (i := 67) (by decide +kernel)⟩
theorem lw_p4 : lw_okq (⟨"WordTerms", "writeSigns", "(III)V"⟩, 6) := ⟨⟨by decide +kernel, by decide +kernel⟩, List.mem_of_getElem? (i := 7) (by decide +kernel), List.mem_of_getElem? (i := 70) (by decide +kernel), List.mem_of_getElem? (i := 71) (by decide +kernel)⟩
theorem lw_p5 : lw_okq (⟨"WordTerms", "endsWithLooseS", "(I)Z"⟩, 6) := ⟨⟨by decide +kernel, by decide +kernel⟩, List.mem_of_getElem? (i := 7) (by decide +kernel), List.mem_of_getElem? (i := 80) (by decide +kernel), List.mem_of_getElem? (i := 81) (by decide +kernel)⟩
theorem lw_p6 : lw_okq (⟨"WordTerms", "hasTerm", "(I)Z"⟩, 6) := ⟨⟨by decide +kernel, by decide +kernel⟩, List.mem_of_getElem? (i := 7) (by decide +kernel), List.mem_of_getElem? (i := 88) (by decide +kernel), List.mem_of_getElem? (i := 89) (by decide +kernel)⟩
theorem lw_p7 : lw_okq (⟨"WordTerms", "signAt", "(II)I"⟩, 6) := ⟨⟨by decide +kernel, by decide +kernel⟩, List.mem_of_getElem? (i := 7) (by decide +kernel), List.mem_of_getElem? (i := 92) (by decide +kernel), List.mem_of_getElem? (i := 93) (by decide +kernel)⟩
theorem lw_p8 : lw_okq (⟨"WordTerms", "firstSame", "(I)I"⟩, 6) := ⟨⟨by decide +kernel, by decide +kernel⟩, List.mem_of_getElem? (i := 7) (by decide +kernel), List.mem_of_getElem? (i := 100) (by decide +kernel), List.mem_of_getElem? (i := 101) (by decide +kernel)⟩
theorem lw_p9 : lw_okq (⟨"WordTerms", "order", "(II)I"⟩, 6) := ⟨⟨by decide +kernel, by decide +kernel⟩, List.mem_of_getElem? (i := 7) (by decide +kernel), List.mem_of_getElem? (i := 104) (by decide +kernel), List.mem_of_getElem? (i := 105) (by decide +kernel)⟩
theorem lw_p10 : lw_okq (⟨"WordTerms", "takeTapeTerm", "()Z"⟩, 6) := ⟨⟨by decide +kernel, by decide +kernel⟩, List.mem_of_getElem? (i := 7) (by decide +kernel), List.mem_of_getElem? (i := 123) (by decide +kernel), List.mem_of_getElem? (i := 124) (by decide +kernel)⟩
theorem lw_p11 : lw_okq (⟨"WordTerms", "tapeIsWord", "()Z"⟩, 6) := ⟨⟨by decide +kernel, by decide +kernel⟩, List.mem_of_getElem? (i := 7) (by decide +kernel), List.mem_of_getElem? (i := 127) (by decide +kernel), List.mem_of_getElem? (i := 128) (by decide +kernel)⟩
theorem lw_p12 : lw_okq (⟨"WordTerms", "distance", "(II)I"⟩, 6) := ⟨⟨by decide +kernel, by decide +kernel⟩, List.mem_of_getElem? (i := 7) (by decide +kernel), List.mem_of_getElem? (i := 131) (by decide +kernel), List.mem_of_getElem? (i := 132) (by decide +kernel)⟩
theorem lw_p13 : lw_okq (⟨"WordTermsModel", "put", "(I)V"⟩, 8) := ⟨⟨by decide +kernel, by decide +kernel⟩, List.mem_of_getElem? (i := 143) (by decide +kernel), List.mem_of_getElem? (i := 178) (by decide +kernel), List.mem_of_getElem? (i := 179) (by decide +kernel)⟩
theorem lw_p14 : lw_okq (⟨"WordTermsModel", "run", "(I)I"⟩, 8) := ⟨⟨by decide +kernel, by decide +kernel⟩, List.mem_of_getElem? (i := 143) (by decide +kernel), List.mem_of_getElem? (i := 193) (by decide +kernel), List.mem_of_getElem? (i := 194) (by decide +kernel)⟩
theorem lw_p15 : lw_okq (⟨"WordTermsModel", "note", "(IZ)V"⟩, 8) := ⟨⟨by decide +kernel, by decide +kernel⟩, List.mem_of_getElem? (i := 143) (by decide +kernel), List.mem_of_getElem? (i := 197) (by decide +kernel), List.mem_of_getElem? (i := 198) (by decide +kernel)⟩
def lw_privs_1 : List (MethodName × Nat) := [(⟨"WordTerms", "putFour", "(I)V"⟩, 6), (⟨"WordTerms", "addTerm", "(II)V"⟩, 6), (⟨"WordTerms", "writeTerm", "(III)V"⟩, 6), (⟨"WordTerms", "endsWithIes", "(I)Z"⟩, 6), (⟨"WordTerms", "writeSigns", "(III)V"⟩, 6), (⟨"WordTerms", "endsWithLooseS", "(I)Z"⟩, 6), (⟨"WordTerms", "hasTerm", "(I)Z"⟩, 6), (⟨"WordTerms", "signAt", "(II)I"⟩, 6), (⟨"WordTerms", "firstSame", "(I)I"⟩, 6), (⟨"WordTerms", "order", "(II)I"⟩, 6), (⟨"WordTerms", "takeTapeTerm", "()Z"⟩, 6), (⟨"WordTerms", "tapeIsWord", "()Z"⟩, 6), (⟨"WordTerms", "distance", "(II)I"⟩, 6), (⟨"WordTermsModel", "put", "(I)V"⟩, 8), (⟨"WordTermsModel", "run", "(I)I"⟩, 8), (⟨"WordTermsModel", "note", "(IZ)V"⟩, 8)]
theorem lw_r1 : ∀ q ∈ lw_privs_1, lw_okq q := List.forall_mem_cons.mpr ⟨lw_p0, List.forall_mem_cons.mpr ⟨lw_p1, List.forall_mem_cons.mpr ⟨lw_p2, List.forall_mem_cons.mpr ⟨lw_p3, List.forall_mem_cons.mpr ⟨lw_p4, List.forall_mem_cons.mpr ⟨lw_p5, List.forall_mem_cons.mpr ⟨lw_p6, List.forall_mem_cons.mpr ⟨lw_p7, List.forall_mem_cons.mpr ⟨lw_p8, List.forall_mem_cons.mpr ⟨lw_p9, List.forall_mem_cons.mpr ⟨lw_p10, List.forall_mem_cons.mpr ⟨lw_p11, List.forall_mem_cons.mpr ⟨lw_p12, List.forall_mem_cons.mpr ⟨lw_p13, List.forall_mem_cons.mpr ⟨lw_p14, List.forall_mem_cons.mpr ⟨lw_p15, fun _ h => absurd h List.not_mem_nil⟩⟩⟩⟩⟩⟩⟩⟩⟩⟩⟩⟩⟩⟩⟩⟩
theorem lw_p16 : lw_okq (⟨"WordTermsModel", "last", "(I)I"⟩, 8) := ⟨⟨by decide +kernel, by decide +kernel⟩, List.mem_of_getElem? (i := 143) (by decide +kernel), List.mem_of_getElem? (i := 201) (by decide +kernel), List.mem_of_getElem? (i := 202) (by decide +kernel)⟩
theorem lw_p17 : lw_okq (⟨"WordTermsModel", "is", "(I)Z"⟩, 8) := ⟨⟨by decide +kernel, by decide +kernel⟩, List.mem_of_getElem? (i := 143) (by decide +kernel), List.mem_of_getElem? (i := 209) (by decide +kernel), List.mem_of_getElem? (i := 210) (by decide +kernel)⟩
theorem lw_p18 : lw_okq (⟨"WordTermsModel", "order", "(II)I"⟩, 8) := ⟨⟨by decide +kernel, by decide +kernel⟩, List.mem_of_getElem? (i := 143) (by decide +kernel), List.mem_of_getElem? (i := 217) (by decide +kernel), List.mem_of_getElem? (i := 218) (by decide +kernel)⟩
theorem lw_p19 : lw_okq (⟨"WordTermsModel", "oneWord", "()Z"⟩, 8) := ⟨⟨by decide +kernel, by decide +kernel⟩, List.mem_of_getElem? (i := 143) (by decide +kernel), List.mem_of_getElem? (i := 234) (by decide +kernel), List.mem_of_getElem? (i := 235) (by decide +kernel)⟩
theorem lw_p20 : lw_okq (⟨"WordTermsModel", "distance", "(II)I"⟩, 8) := ⟨⟨by decide +kernel, by decide +kernel⟩, List.mem_of_getElem? (i := 143) (by decide +kernel), List.mem_of_getElem? (i := 238) (by decide +kernel), List.mem_of_getElem? (i := 239) (by decide +kernel)⟩
def lw_privs_2 : List (MethodName × Nat) := [(⟨"WordTermsModel", "last", "(I)I"⟩, 8), (⟨"WordTermsModel", "is", "(I)Z"⟩, 8), (⟨"WordTermsModel", "order", "(II)I"⟩, 8), (⟨"WordTermsModel", "oneWord", "()Z"⟩, 8), (⟨"WordTermsModel", "distance", "(II)I"⟩, 8)]
theorem lw_r2 : ∀ q ∈ lw_privs_2, lw_okq q := List.forall_mem_cons.mpr ⟨lw_p16, List.forall_mem_cons.mpr ⟨lw_p17, List.forall_mem_cons.mpr ⟨lw_p18, List.forall_mem_cons.mpr ⟨lw_p19, List.forall_mem_cons.mpr ⟨lw_p20, fun _ h => absurd h List.not_mem_nil⟩⟩⟩⟩⟩
def lw_privs : List (MethodName × Nat) := lw_privs_1 ++ (lw_privs_2)
def lw_tbl : List Cond := k2_sels lw_privs ++ tables_1
theorem lw_privs_ok : ∀ q ∈ lw_privs, lw_okq q := by
  show ∀ q ∈ lw_privs_1 ++ (lw_privs_2), lw_okq q
  exact List.forall_mem_append.mpr ⟨lw_r1, lw_r2⟩
end
section
def R_X : String := "WordTerms"
def F_X : u_T := fun k => match k with
  | 0 => ("WordTerms", "tape", "[B", true)
  | 1 => ("WordTerms", "tapeLength", "I", false)
  | 2 => ("WordTerms", "signs", "[B", true)
  | 3 => ("WordTerms", "lengths", "[I", true)
  | 4 => ("WordTerms", "termCount", "I", false)
  | _ => ("WordTerms", "distances", "[I", true)
def t_X : Nat → FieldType := fun k => match k with
  | 0 => .array .byte
  | 1 => .int
  | 2 => .array .byte
  | 3 => .array .int
  | 4 => .int
  | _ => .array .int
theorem n_X : ∀ a, a < 6 → ∀ b, b < 6 → a ≠ b → (F_X a).2.1 ≠ (F_X b).2.1 := by decide +kernel
theorem t_X_ok : ∀ k, k < 6 → parseFieldDescriptor (F_X k).2.2.1 = some (t_X k) := by decide +kernel
def R_M : String := "WordTermsModel"
def F_M : u_T := fun k => match k with
  | 0 => ("WordTermsModel", "tape", "[B", true)
  | 1 => ("WordTermsModel", "length", "I", false)
  | 2 => ("WordTermsModel", "terms", "[B", true)
  | 3 => ("WordTermsModel", "sizes", "[I", true)
  | 4 => ("WordTermsModel", "count", "I", false)
  | 5 => ("WordTermsModel", "word", "[B", true)
  | 6 => ("WordTermsModel", "wordLength", "I", false)
  | _ => ("WordTermsModel", "table", "[I", true)
def t_M : Nat → FieldType := fun k => match k with
  | 0 => .array .byte
  | 1 => .int
  | 2 => .array .byte
  | 3 => .array .int
  | 4 => .int
  | 5 => .array .byte
  | 6 => .int
  | _ => .array .int
theorem n_M : ∀ a, a < 8 → ∀ b, b < 8 → a ≠ b → (F_M a).2.1 ≠ (F_M b).2.1 := by decide +kernel
theorem t_M_ok : ∀ k, k < 8 → parseFieldDescriptor (F_M k).2.2.1 = some (t_M k) := by decide +kernel
abbrev classes : List vw_C := [(R_X, F_X, 6), (R_M, F_M, 8)]
abbrev b_X_init : ByteArray := prog_1_method_1_code
def y_X_init : MethodName := ⟨R_X, "<init>", "()V"⟩
abbrev b_X_feed : ByteArray := prog_1_method_2_code
def y_X_feed : MethodName := ⟨R_X, "feed", "(IIIII)I"⟩
abbrev b_X_end : ByteArray := prog_1_method_3_code
def y_X_end : MethodName := ⟨R_X, "end", "(I)I"⟩
abbrev b_X_read : ByteArray := prog_1_method_4_code
def y_X_read : MethodName := ⟨R_X, "read", "()I"⟩
abbrev b_X_sign : ByteArray := prog_1_method_5_code
def y_X_sign : MethodName := ⟨R_X, "sign", "(II)I"⟩
abbrev b_X_different : ByteArray := prog_1_method_6_code
def y_X_different : MethodName := ⟨R_X, "different", "()I"⟩
abbrev b_X_first : ByteArray := prog_1_method_7_code
def y_X_first : MethodName := ⟨R_X, "first", "(I)I"⟩
abbrev b_X_compare : ByteArray := prog_1_method_8_code
def y_X_compare : MethodName := ⟨R_X, "compare", "(II)I"⟩
abbrev b_X_apart : ByteArray := prog_1_method_9_code
def y_X_apart : MethodName := ⟨R_X, "apart", "(I)I"⟩
abbrev b_X_nearest : ByteArray := prog_1_method_10_code
def y_X_nearest : MethodName := ⟨R_X, "nearest", "()I"⟩
abbrev b_X_plain : ByteArray := prog_1_method_11_code
def y_X_plain : MethodName := ⟨R_X, "plain", "()I"⟩
abbrev b_X_putFour : ByteArray := prog_1_method_12_code
def y_X_putFour : MethodName := ⟨R_X, "putFour", "(I)V"⟩
abbrev b_X_small : ByteArray := prog_1_method_13_code
def y_X_small : MethodName := ⟨R_X, "small", "(B)B"⟩
abbrev b_X_isSign : ByteArray := prog_1_method_14_code
def y_X_isSign : MethodName := ⟨R_X, "isSign", "(B)Z"⟩
abbrev b_X_tapeIsWord : ByteArray := prog_1_method_15_code
def y_X_tapeIsWord : MethodName := ⟨R_X, "tapeIsWord", "()Z"⟩
abbrev b_X_takeTapeTerm : ByteArray := prog_1_method_16_code
def y_X_takeTapeTerm : MethodName := ⟨R_X, "takeTapeTerm", "()Z"⟩
abbrev b_X_addTerm : ByteArray := prog_1_method_17_code
def y_X_addTerm : MethodName := ⟨R_X, "addTerm", "(II)V"⟩
abbrev b_X_writeTerm : ByteArray := prog_1_method_18_code
def y_X_writeTerm : MethodName := ⟨R_X, "writeTerm", "(III)V"⟩
abbrev b_X_endsWithIes : ByteArray := prog_1_method_19_code
def y_X_endsWithIes : MethodName := ⟨R_X, "endsWithIes", "(I)Z"⟩
abbrev b_X_endsWithLooseS : ByteArray := prog_1_method_20_code
def y_X_endsWithLooseS : MethodName := ⟨R_X, "endsWithLooseS", "(I)Z"⟩
abbrev b_X_writeSigns : ByteArray := prog_1_method_21_code
def y_X_writeSigns : MethodName := ⟨R_X, "writeSigns", "(III)V"⟩
abbrev b_X_hasTerm : ByteArray := prog_1_method_22_code
def y_X_hasTerm : MethodName := ⟨R_X, "hasTerm", "(I)Z"⟩
abbrev b_X_signAt : ByteArray := prog_1_method_23_code
def y_X_signAt : MethodName := ⟨R_X, "signAt", "(II)I"⟩
abbrev b_X_firstSame : ByteArray := prog_1_method_24_code
def y_X_firstSame : MethodName := ⟨R_X, "firstSame", "(I)I"⟩
abbrev b_X_order : ByteArray := prog_1_method_25_code
def y_X_order : MethodName := ⟨R_X, "order", "(II)I"⟩
abbrev b_X_distance : ByteArray := prog_1_method_26_code
def y_X_distance : MethodName := ⟨R_X, "distance", "(II)I"⟩
abbrev b_M_init : ByteArray := prog_3_method_1_code
def y_M_init : MethodName := ⟨R_M, "<init>", "()V"⟩
abbrev b_M_put : ByteArray := prog_3_method_2_code
def y_M_put : MethodName := ⟨R_M, "put", "(I)V"⟩
abbrev b_M_feed : ByteArray := prog_3_method_3_code
def y_M_feed : MethodName := ⟨R_M, "feed", "(IIIII)I"⟩
abbrev b_M_end : ByteArray := prog_3_method_4_code
def y_M_end : MethodName := ⟨R_M, "end", "(I)I"⟩
abbrev b_M_letter : ByteArray := prog_3_method_5_code
def y_M_letter : MethodName := ⟨R_M, "letter", "(I)Z"⟩
abbrev b_M_run : ByteArray := prog_3_method_6_code
def y_M_run : MethodName := ⟨R_M, "run", "(I)I"⟩
abbrev b_M_last : ByteArray := prog_3_method_7_code
def y_M_last : MethodName := ⟨R_M, "last", "(I)I"⟩
abbrev b_M_note : ByteArray := prog_3_method_8_code
def y_M_note : MethodName := ⟨R_M, "note", "(IZ)V"⟩
abbrev b_M_oneWord : ByteArray := prog_3_method_9_code
def y_M_oneWord : MethodName := ⟨R_M, "oneWord", "()Z"⟩
abbrev b_M_read : ByteArray := prog_3_method_10_code
def y_M_read : MethodName := ⟨R_M, "read", "()I"⟩
abbrev b_M_is : ByteArray := prog_3_method_11_code
def y_M_is : MethodName := ⟨R_M, "is", "(I)Z"⟩
abbrev b_M_sign : ByteArray := prog_3_method_12_code
def y_M_sign : MethodName := ⟨R_M, "sign", "(II)I"⟩
abbrev b_M_order : ByteArray := prog_3_method_13_code
def y_M_order : MethodName := ⟨R_M, "order", "(II)I"⟩
abbrev b_M_first : ByteArray := prog_3_method_14_code
def y_M_first : MethodName := ⟨R_M, "first", "(I)I"⟩
abbrev b_M_different : ByteArray := prog_3_method_15_code
def y_M_different : MethodName := ⟨R_M, "different", "()I"⟩
abbrev b_M_compare : ByteArray := prog_3_method_16_code
def y_M_compare : MethodName := ⟨R_M, "compare", "(II)I"⟩
abbrev b_M_distance : ByteArray := prog_3_method_17_code
def y_M_distance : MethodName := ⟨R_M, "distance", "(II)I"⟩
abbrev b_M_apart : ByteArray := prog_3_method_18_code
def y_M_apart : MethodName := ⟨R_M, "apart", "(I)I"⟩
abbrev b_M_nearest : ByteArray := prog_3_method_19_code
def y_M_nearest : MethodName := ⟨R_M, "nearest", "()I"⟩
abbrev b_M_plain : ByteArray := prog_3_method_20_code
def y_M_plain : MethodName := ⟨R_M, "plain", "()I"⟩
abbrev b_Integer_compare : ByteArray := prog_4_method_40_code
def y_Integer_compare : MethodName := ⟨"java/lang/Integer", "compare", "(II)I"⟩
/-! A method's frame in my own words: gC what stays the same through a walk, gH the world now, gMi / gMv a contract over a world 'w u' (u its state), with start, end and call rows. -/
def gT : List Cond := lw_tbl.filter (fun w => k2_isCode w || goodWord w)
theorem lw_good : ∀ w ∈ gT, (w.onTables && w.keeps) = true ∨ ∃ ty, w = .arrayClass ty := by
  intro w hw
  have h1 : (k2_isCode w || goodWord w) = true := (List.mem_filter.mp hw).2
  rw [Bool.or_eq_true] at h1
  rcases h1 with h1 | h1
  · cases w <;> first | (simp [k2_isCode] at h1; done) | exact Or.inl rfl
  · exact good_of_word h1
theorem g_good {ws : List Cond} (h : ∀ w ∈ ws, w ∈ gT) : GoodIn gT ws := fun w hw => ⟨h w hw, lw_good w (h w hw)⟩
def gW (y : MethodName) (cc : ByteArray) (n : Nat) (ret : Option FieldType) : List Cond := .code y cc n ret :: gT
theorem gW_in {y : MethodName} {cc : ByteArray} {n : Nat} {ret : Option FieldType} (h : Cond.code y cc n ret ∈ gT) : ∀ w ∈ gW y cc n ret, w ∈ gT := fun w hw => by
  rcases List.mem_cons.mp hw with h1 | h1
  · rw [h1]; exact h
  · exact h1
/-- what the tables say of an instance method of class C -/
def gY (C : String) (y : MethodName) (cc : ByteArray) (n : Nat) (ret : Option FieldType) (k : Nat) : Prop :=
  Cond.instanceMethod y ∈ gT ∧ Cond.selects C y y ∈ gT ∧ Cond.initialized C ∈ gT ∧ Cond.code y cc n ret ∈ gT ∧ (y.cls = C ∧ y.cls ≠ "java/lang/invoke/MethodHandle" ∧ y.cls ≠ "java/lang/invoke/VarHandle" ∧ (parseMethodDescriptor y.desc).map (fun d => d.parameters.length) = some k)
/-- and of a static one -/
def gYs (y : MethodName) (cc : ByteArray) (n : Nat) (ret : Option FieldType) (k : Nat) : Prop :=
  Cond.static y ∈ gT ∧ Cond.initialized y.cls ∈ gT ∧ Cond.code y cc n ret ∈ gT ∧ (y.cls ≠ "java/lang/invoke/MethodHandle" ∧ y.cls ≠ "java/lang/invoke/VarHandle" ∧ (parseMethodDescriptor y.desc).map (fun d => d.parameters.length) = some k)
/-- a room of depth d -/
def gR (d : Nat) : Room := { frames := d, cells := 0, slots := 0, locals := 32 * d }
def gC (p : Program) (m : MethodId) (c : Code) (cc : ByteArray) (nL : Nat) (s : State) (args : Array Value) (own : String) (meth : Method) (ret : Option FieldType) (D : va_G) (ty : List (ClassId × FieldType)) (A : Nat → Prop) : Prop :=
  CallFix p m c cc nL s args gT own ∧ (meth.sig.returnType = ret ∧ meth.locks = false) ∧ va_K D classes ty s ∧ ∀ q, s.heap.size ≤ q → A q
def gH {S : Type} (D : va_G) (w : S → va_W) (A : Nat → Prop) (H0 : Heap) (u : S) (H : Heap) (locs : List Loc) : Prop := va_P D classes (w u) H ∧ va_D A (w u) ∧ va_S A H0 H locs
def gB {S : Type} (D : va_G) (ty : List (ClassId × FieldType)) (w : S → va_W) (A : Nat → Prop) (u : S) (t : State) : Prop := va_P D classes (w u) t.heap ∧ va_K D classes ty t ∧ va_D A (w u)
def gMi {S : Type} (l : Launch) (y : MethodName) (ws : List Cond) (rm : Room) (D : va_G) (ty : List (ClassId × FieldType)) (w : S → va_W) (as : List Value) (u : S) (post : Int32 → S → Prop) : Prop :=
  ∀ sz : Nat, Met l y ws rm (va_Pc as (fun U => U.heap.size = sz ∧ gB D ty w (fun _ => True) u U)) (va_Qi post (gB D ty w (va_A (w u) sz)) (va_A (w u) sz)) 0 0 (va_A (w u) sz)
def gMv {S : Type} (l : Launch) (y : MethodName) (ws : List Cond) (rm : Room) (D : va_G) (ty : List (ClassId × FieldType)) (w : S → va_W) (as : List Value) (u : S) (post : S → Prop) : Prop :=
  ∀ sz : Nat, Met l y ws rm (va_Pc as (fun U => U.heap.size = sz ∧ gB D ty w (fun _ => True) u U)) (va_Qv post (gB D ty w (va_A (w u) sz)) (va_A (w u) sz)) 0 0 (va_A (w u) sz)
section GRT
variable {S : Type} {p : Program} {l : Launch} {e : Env} {R : Room} {s : State} {m : MethodId} {args : Array Value} {below : List Frame} {meth : Method} {c : Code} {H : Heap} {locs : List Loc} {Q : State → Prop}
variable {cc : ByteArray} {nL pc : Nat} {ls : Array Slot} {own : String} {D : va_G} {ty : List (ClassId × FieldType)} {A : Nat → Prop} {w : S → va_W} {u : S}
theorem g_iret {rt : FieldType} {v : Int32} {post : Int32 → S → Prop} (hC : gC p m c cc nL s args own meth (some rt) D ty A) (hw : gH D w A s.heap u H locs) (hn : narrow rt (.int v) = .int v) (hp : post v u) (hdg : decode cc pc = .ok (.ireturn, 1)) :
    W p l e R s m args below meth c H locs 0 0 (MQ below (va_Qi post (gB D ty w A) A) args s 0 0 A) (F0 m pc ls [.int v]) := by
  obtain ⟨⟨hx, hb, -, -, -⟩, ⟨hr, hlk⟩, hK, -⟩ := hC
  obtain ⟨hP, hD, hS⟩ := hw
  exact W.zret (hlocks := hlk) hx hb hr hn (fun t ht hW => ⟨⟨v, u, rfl, hp, by rw [ht]; exact hP, va_K.moved hW.alike hK, hD⟩, hS.F ht⟩) hS.2.2 hdg
theorem g_vret {post : S → Prop} (hC : gC p m c cc nL s args own meth none D ty A) (hw : gH D w A s.heap u H locs) (hp : post u) (hdg : decode cc pc = .ok (.return_, 1)) :
    W p l e R s m args below meth c H locs 0 0 (MQ below (va_Qv post (gB D ty w A) A) args s 0 0 A) (F0 m pc ls []) := by
  obtain ⟨⟨hx, hb, -, -, -⟩, ⟨hr, hlk⟩, hK, -⟩ := hC
  obtain ⟨hP, hD, hS⟩ := hw
  exact W.vret (hlocks := hlk) hx hb hr (fun t ht hW => ⟨⟨u, rfl, hp, by rw [ht]; exact hP, va_K.moved hW.alike hK, hD⟩, hS.F ht⟩) hS.2.2 hdg
theorem g_top {cells slots : Nat} {x y : Int32} {rest : List Value} (h : x = y) (k : W p l e R s m args below meth c H locs cells slots Q (F0 m pc ls (.int y :: rest))) : W p l e R s m args below meth c H locs cells slots Q (F0 m pc ls (.int x :: rest)) := by
  subst h
  exact k
end GRT
/-- the return row of a walk towards Q -/
def gRi {S : Type} (p : Program) (l : Launch) (e : Env) (R : Room) (s : State) (m : MethodId) (args : Array Value) (below : List Frame) (meth : Method) (c : Code) (cc : ByteArray) (D : va_G) (w : S → va_W) (A : Nat → Prop) (rt : FieldType) (post : Int32 → S → Prop) (Q : State → Prop) : Prop :=
  ∀ (v : Int32) (u : S) (H : Heap) (locs : List Loc) (pc : Nat) (ls : Array Slot), gH D w A s.heap u H locs → narrow rt (.int v) = .int v → post v u → decode cc pc = .ok (.ireturn, 1) → W p l e R s m args below meth c H locs 0 0 Q (F0 m pc ls [.int v])
def gRv {S : Type} (p : Program) (l : Launch) (e : Env) (R : Room) (s : State) (m : MethodId) (args : Array Value) (below : List Frame) (meth : Method) (c : Code) (cc : ByteArray) (D : va_G) (w : S → va_W) (A : Nat → Prop) (post : S → Prop) (Q : State → Prop) : Prop :=
  ∀ (u : S) (H : Heap) (locs : List Loc) (pc : Nat) (ls : Array Slot), gH D w A s.heap u H locs → post u → decode cc pc = .ok (.return_, 1) → W p l e R s m args below meth c H locs 0 0 Q (F0 m pc ls [])
section GST
variable {S : Type} {l : Launch} {y : MethodName} {rm : Room} {D : va_G} {ty : List (ClassId × FieldType)} {w : S → va_W} {as : List Value} {u : S} {cc : ByteArray} {maxL : Nat}
theorem g_starti {rt : FieldType} {post : Int32 → S → Prop} (hy : plainName y.cls = true) (hlen : (lg_sl as).length ≤ maxL)
    (body : ∀ (p : Program) (e : Env) (s : State) (m : MethodId) (args : Array Value) (below : List Frame) (meth : Method) (c : Code) (A : Nat → Prop) (Q : State → Prop) (ls : Array Slot), gC p m c cc maxL s args y.cls meth (some rt) D ty A → gRi p l e rm s m args below meth c cc D w A rt post Q → lv_has ls maxL (lv_args 0 as) → gH D w A s.heap u s.heap [] → W p l e rm s m args below meth c s.heap [] 0 0 Q (F0 m 0 ls [])) : gMi l y (gW y cc maxL (some rt)) rm D ty w as u post := by
  intro sz
  refine Met.ofW (cc := cc) (maxL := maxL) (ret := some rt) hy rfl ?_
  intro p e s m args below meth c s₁ B hml hv
  obtain ⟨rfl, hsz, hP, hK, hD0⟩ := hv
  subst hsz
  have hl := lv_entry as (n := maxL) hlen
  have hts := atoms_spec (ws := gW y cc maxL (some rt)) B.pre
  rw [lg_entry_eq]
  have hC : gC p m c cc maxL s as.toArray y.cls meth (some rt) D ty (va_A (w u) s.heap.size) := ⟨⟨B.exec, B.bytes, hml, findClass_of_methodNamed B.named, fun w hw => hts w (List.mem_cons_of_mem _ hw)⟩, ⟨B.returns, B.notSynchronized⟩, hK, fun q h => Or.inr h⟩
  exact body p e s m _ below meth c _ _ _ hC (fun v u H locs pc ls hw hn hp hdg => g_iret hC hw hn hp hdg) hl ⟨hP, hD0.self, va_S.rf⟩
theorem g_startv {post : S → Prop} (hy : plainName y.cls = true) (hlen : (lg_sl as).length ≤ maxL)
    (body : ∀ (p : Program) (e : Env) (s : State) (m : MethodId) (args : Array Value) (below : List Frame) (meth : Method) (c : Code) (A : Nat → Prop) (Q : State → Prop) (ls : Array Slot), gC p m c cc maxL s args y.cls meth none D ty A → gRv p l e rm s m args below meth c cc D w A post Q → lv_has ls maxL (lv_args 0 as) → gH D w A s.heap u s.heap [] → W p l e rm s m args below meth c s.heap [] 0 0 Q (F0 m 0 ls [])) : gMv l y (gW y cc maxL none) rm D ty w as u post := by
  intro sz
  refine Met.ofW (cc := cc) (maxL := maxL) (ret := none) hy rfl ?_
  intro p e s m args below meth c s₁ B hml hv
  obtain ⟨rfl, hsz, hP, hK, hD0⟩ := hv
  subst hsz
  have hl := lv_entry as (n := maxL) hlen
  have hts := atoms_spec (ws := gW y cc maxL none) B.pre
  rw [lg_entry_eq]
  have hC : gC p m c cc maxL s as.toArray y.cls meth none D ty (va_A (w u) s.heap.size) := ⟨⟨B.exec, B.bytes, hml, findClass_of_methodNamed B.named, fun w hw => hts w (List.mem_cons_of_mem _ hw)⟩, ⟨B.returns, B.notSynchronized⟩, hK, fun q h => Or.inr h⟩
  exact body p e s m _ below meth c _ _ _ hC (fun u H locs pc ls hw hp hdg => g_vret hC hw hp hdg) hl ⟨hP, hD0.self, va_S.rf⟩
end GST
section GNC
variable {p : Program} {l : Launch} {e : Env} {R : Room} {s : State} {m : MethodId} {args : Array Value} {below : List Frame} {meth : Method} {c : Code} {H : Heap} {locs : List Loc} {cells slots : Nat} {Q : State → Prop}
variable {cc : ByteArray} {pc : Nat} {ls : Array Slot} {rest : List Value}
theorem nc_eq (hexec : p.tables.exec = Jvm.exec) (hb : c.code = cc) {a b : Nat} {off : Int} {tgt : Nat} (hdg : decode cc pc = .ok (.if_icmp .eq off, 3)) (ht : (pc : Int) + off = (tgt : Int)) (ha : a < 2 ^ 31) (hb2 : b < 2 ^ 31)
    (kt : a = b → W p l e R s m args below meth c H locs cells slots Q (F0 m tgt ls rest)) (kf : a ≠ b → W p l e R s m args below meth c H locs cells slots Q (F0 m (pc + 3) ls rest)) : W p l e R s m args below meth c H locs cells slots Q (F0 m pc ls (.int (nI b) :: .int (nI a) :: rest)) :=
  lv_icmp_eq hexec hb hdg ht (fun h => kt ((nI_eq ha hb2).mp h)) (fun h => kf (fun q => h ((nI_eq ha hb2).mpr q)))
theorem nc_ne (hexec : p.tables.exec = Jvm.exec) (hb : c.code = cc) {a b : Nat} {off : Int} {tgt : Nat} (hdg : decode cc pc = .ok (.if_icmp .ne off, 3)) (ht : (pc : Int) + off = (tgt : Int)) (ha : a < 2 ^ 31) (hb2 : b < 2 ^ 31)
    (kt : a ≠ b → W p l e R s m args below meth c H locs cells slots Q (F0 m tgt ls rest)) (kf : a = b → W p l e R s m args below meth c H locs cells slots Q (F0 m (pc + 3) ls rest)) : W p l e R s m args below meth c H locs cells slots Q (F0 m pc ls (.int (nI b) :: .int (nI a) :: rest)) :=
  lv_icmp_ne hexec hb hdg ht (fun h => kt (fun q => h ((nI_eq ha hb2).mpr q))) (fun h => kf ((nI_eq ha hb2).mp h))
theorem nc_lt (hexec : p.tables.exec = Jvm.exec) (hb : c.code = cc) {a b : Nat} {off : Int} {tgt : Nat} (hdg : decode cc pc = .ok (.if_icmp .lt off, 3)) (ht : (pc : Int) + off = (tgt : Int)) (ha : a < 2 ^ 31) (hb2 : b < 2 ^ 31)
    (kt : a < b → W p l e R s m args below meth c H locs cells slots Q (F0 m tgt ls rest)) (kf : b ≤ a → W p l e R s m args below meth c H locs cells slots Q (F0 m (pc + 3) ls rest)) : W p l e R s m args below meth c H locs cells slots Q (F0 m pc ls (.int (nI b) :: .int (nI a) :: rest)) :=
  lv_icmp_lt hexec hb hdg ht (fun h => kt ((nI_ltI ha hb2).mp h)) (fun h => kf (Nat.not_lt.mp (fun q => h ((nI_ltI ha hb2).mpr q))))
theorem nc_ge (hexec : p.tables.exec = Jvm.exec) (hb : c.code = cc) {a b : Nat} {off : Int} {tgt : Nat} (hdg : decode cc pc = .ok (.if_icmp .ge off, 3)) (ht : (pc : Int) + off = (tgt : Int)) (ha : a < 2 ^ 31) (hb2 : b < 2 ^ 31)
    (kt : b ≤ a → W p l e R s m args below meth c H locs cells slots Q (F0 m tgt ls rest)) (kf : a < b → W p l e R s m args below meth c H locs cells slots Q (F0 m (pc + 3) ls rest)) : W p l e R s m args below meth c H locs cells slots Q (F0 m pc ls (.int (nI b) :: .int (nI a) :: rest)) :=
  lv_icmp_ge hexec hb hdg ht (fun h => kt ((nI_leI hb2 ha).mp h)) (fun h => kf (Nat.not_le.mp (fun q => h ((nI_leI hb2 ha).mpr q))))
theorem nc_gt (hexec : p.tables.exec = Jvm.exec) (hb : c.code = cc) {a b : Nat} {off : Int} {tgt : Nat} (hdg : decode cc pc = .ok (.if_icmp .gt off, 3)) (ht : (pc : Int) + off = (tgt : Int)) (ha : a < 2 ^ 31) (hb2 : b < 2 ^ 31)
    (kt : b < a → W p l e R s m args below meth c H locs cells slots Q (F0 m tgt ls rest)) (kf : a ≤ b → W p l e R s m args below meth c H locs cells slots Q (F0 m (pc + 3) ls rest)) : W p l e R s m args below meth c H locs cells slots Q (F0 m pc ls (.int (nI b) :: .int (nI a) :: rest)) :=
  lv_icmp_gt hexec hb hdg ht (fun h => kt ((nI_ltI hb2 ha).mp h)) (fun h => kf (Nat.not_lt.mp (fun q => h ((nI_ltI hb2 ha).mpr q))))
theorem nc_le (hexec : p.tables.exec = Jvm.exec) (hb : c.code = cc) {a b : Nat} {off : Int} {tgt : Nat} (hdg : decode cc pc = .ok (.if_icmp .le off, 3)) (ht : (pc : Int) + off = (tgt : Int)) (ha : a < 2 ^ 31) (hb2 : b < 2 ^ 31)
    (kt : a ≤ b → W p l e R s m args below meth c H locs cells slots Q (F0 m tgt ls rest)) (kf : b < a → W p l e R s m args below meth c H locs cells slots Q (F0 m (pc + 3) ls rest)) : W p l e R s m args below meth c H locs cells slots Q (F0 m pc ls (.int (nI b) :: .int (nI a) :: rest)) :=
  lv_icmp_le hexec hb hdg ht (fun h => kt ((nI_leI ha hb2).mp h)) (fun h => kf (Nat.not_le.mp (fun q => h ((nI_leI ha hb2).mpr q))))
end GNC
theorem nI_i1 (a : Nat) : nI a + Int32.ofInt 1 = nI (a + 1) := by
  rw [show Int32.ofInt 1 = 1 by decide]
  exact nI_1 a
theorem nI_i6 (a : Nat) : nI a + Int32.ofInt 6 = nI (a + 6) := by
  rw [show Int32.ofInt 6 = nI 6 by decide]
  exact nI_add a 6
theorem n_m1 {a : Nat} (h : 1 ≤ a) : nI a + Int32.ofInt (-1) = nI (a - 1) := by
  rw [show Int32.ofInt (-1) = -1 by decide]
  exact sb_m1 h
theorem n_m2 {a : Nat} (h : 2 ≤ a) : nI a + Int32.ofInt (-2) = nI (a - 2) := by
  obtain ⟨b, rfl⟩ : ∃ b, a = b + 1 + 1 := ⟨a - 2, by omega⟩
  have e : Int32.ofInt (-2) = -1 + -1 := by decide
  rw [e, ← Int32.add_assoc, pk_m1, pk_m1]
  rfl
section GCL
variable {S : Type} {p : Program} {l : Launch} {e : Env} {R : Room} {s : State} {m : MethodId} {args : Array Value} {below : List Frame} {meth : Method} {c : Code} {H : Heap} {locs : List Loc} {Q : State → Prop}
variable {cc : ByteArray} {nL pc : Nat} {ls : Array Slot} {own : String} {D : va_G} {ty : List (ClassId × FieldType)} {A : Nat → Prop} {w : S → va_W} {u : S} {ret : Option FieldType}
variable {y : MethodName} {bytes : ByteArray} {maxL index n : Nat} {rt : Option FieldType} {rm : Room} {C : String} {as rest : List Value} {h : Nat}
theorem g_cwV (hts : ∀ w ∈ gT, w.before args s = true) (h1 : Cond.methodLink own index y ∈ gT) (hY : gY C y bytes maxL rt n) {mc ms : Nat} (hrc : rm.cells = mc) (hrs : rm.slots = ms) (hR : rm.frames + 1 ≤ R.frames ∧ 8 + (maxL + 11) + rm.locals ≤ R.locals) : CallW R s args own C index y bytes maxL rt (gW y bytes maxL rt) rm mc ms n := by
  obtain ⟨h2, h3, h4, h5, hd⟩ := hY
  refine cwV n hts (g_good ?_) rfl hrc hrs hd hR
  intro w hw
  rcases List.mem_append.mp hw with hw | hw
  · rcases List.mem_cons.mp hw with h | hw
    · rw [h]; exact h1
    rcases List.mem_cons.mp hw with h | hw
    · rw [h]; exact h2
    rcases List.mem_cons.mp hw with h | hw
    · rw [h]; exact h3
    · rw [List.mem_singleton.mp hw]; exact h4
  · exact gW_in h5 w hw
theorem g_cwS (hts : ∀ w ∈ gT, w.before args s = true) (h1 : Cond.methodLink own index y ∈ gT) (hY : gYs y bytes maxL rt n) {mc ms : Nat} (hrc : rm.cells = mc) (hrs : rm.slots = ms) (hR : rm.frames + 1 ≤ R.frames ∧ 8 + (maxL + 11) + rm.locals ≤ R.locals) : CallB R s args own index y bytes maxL rt (gW y bytes maxL rt) rm mc ms n ∧ (Cond.static y).before args s = true := by
  obtain ⟨h2, h4, h5, hd⟩ := hY
  exact ⟨callB_of n hts (g_good (gW_in h5)) rfl hrc hrs (hts _ h4) (hts _ h1) hd hR, hts _ h2⟩
theorem g_free (hK : ∀ q, s.heap.size ≤ q → A q) (hD : va_D A (w u)) (hS : va_S A s.heap H locs) : ∀ q, va_A (w u) H.size q → A q := by
  intro q h
  rcases h with ⟨k, e, h⟩ | h
  · exact hD.2 k _ h
  · exact hK q (Nat.le_trans hS.1 h)
/-- a call of an instance method over the same world -/
theorem g_calli {post : Int32 → S → Prop} {ci : Nat} {fs : List Value} {T : u_T} {N : Nat} (hC : gC p m c cc nL s args own meth ret D ty A) (hw : gH D w A s.heap u H locs) (hM : gMi l y (gW y bytes maxL rt) rm D ty w (.ref h :: as) u post) (h1 : Cond.methodLink own index y ∈ gT) (hY : gY C y bytes maxL rt as.length) (hc : classes[ci]? = some (C, T, N)) (he : (w u)[0]? = some (h, .inr (ci, fs))) (hrc : rm.cells = 0) (hrs : rm.slots = 0) (hR : rm.frames + 1 ≤ R.frames ∧ 8 + (maxL + 11) + rm.locals ≤ R.locals) (hls : ls.size = nL) (hrm : (rest.map fun v => v.category).sum ≤ 8) (hdg : decode cc pc = .ok (.invokevirtual index, 3))
    (kk : ∀ (r : Int32) (u1 : S) (H1 : Heap) (locs1 : List Loc), post r u1 → gH D w A s.heap u1 H1 locs1 → W p l e R s m args below meth c H1 locs1 0 0 Q (F0 m (pc + 3) ls (.int r :: rest))) : W p l e R s m args below meth c H locs 0 0 Q (F0 m pc ls (as.reverse ++ .ref h :: rest)) := by
  obtain ⟨hF, -, hK, hA⟩ := hC
  obtain ⟨hP, hD, hS⟩ := hw
  have hFc := g_free hA hD hS
  refine va_calli (va_runV (As := as) (rest := rest) hF (hM H.size) (g_cwV hF.2.2.2.2 h1 hY hrc hrs hR) ⟨fun a U g mk q => ?_, va_recv hK hP hc he, fun U hU hW => ?_⟩ rfl rfl hls rfl (lv_room hrm) hdg ⟨Nat.zero_le _, Nat.zero_le _⟩) hS (fun q _ h => hFc q h) hFc (fun r u1 t H1 locs1 ht hvm hp hB hz1 hk1 hS1 => ?_)
  · obtain ⟨q0, q1, qP, qK, qD⟩ := q
    exact ⟨q0, q1, qP, va_K.moved (u := U) (U := U.calling g mk a) (Vm.Alike.refl U.vm) qK, qD⟩
  · exact ⟨rfl, by rw [hU], by rw [hU]; exact hP, va_K.moved hW.alike hK, hD.weaken (fun _ _ _ _ => trivial)⟩
  · obtain ⟨hP1, hK1, hD1⟩ := hB
    rw [ht] at hP1
    exact kk r u1 H1 locs1 hp ⟨hP1, hD1.weaken (fun k q _ h => hFc q.1 h), hS1⟩
theorem g_callv {post : S → Prop} {ci : Nat} {fs : List Value} {T : u_T} {N : Nat} (hC : gC p m c cc nL s args own meth ret D ty A) (hw : gH D w A s.heap u H locs) (hM : gMv l y (gW y bytes maxL rt) rm D ty w (.ref h :: as) u post) (h1 : Cond.methodLink own index y ∈ gT) (hY : gY C y bytes maxL rt as.length) (hc : classes[ci]? = some (C, T, N)) (he : (w u)[0]? = some (h, .inr (ci, fs))) (hrc : rm.cells = 0) (hrs : rm.slots = 0) (hR : rm.frames + 1 ≤ R.frames ∧ 8 + (maxL + 11) + rm.locals ≤ R.locals) (hls : ls.size = nL) (hrm : (rest.map fun v => v.category).sum ≤ 8) (hdg : decode cc pc = .ok (.invokevirtual index, 3))
    (kk : ∀ (u1 : S) (H1 : Heap) (locs1 : List Loc), post u1 → gH D w A s.heap u1 H1 locs1 → W p l e R s m args below meth c H1 locs1 0 0 Q (F0 m (pc + 3) ls rest)) : W p l e R s m args below meth c H locs 0 0 Q (F0 m pc ls (as.reverse ++ .ref h :: rest)) := by
  obtain ⟨hF, -, hK, hA⟩ := hC
  obtain ⟨hP, hD, hS⟩ := hw
  have hFc := g_free hA hD hS
  refine va_callv (va_runV (As := as) (rest := rest) hF (hM H.size) (g_cwV hF.2.2.2.2 h1 hY hrc hrs hR) ⟨fun a U g mk q => ?_, va_recv hK hP hc he, fun U hU hW => ?_⟩ rfl rfl hls rfl (lv_room hrm) hdg ⟨Nat.zero_le _, Nat.zero_le _⟩) hS (fun q _ h => hFc q h) hFc (fun u1 t H1 locs1 ht hvm hp hB hz1 hk1 hS1 => ?_)
  · obtain ⟨q0, q1, qP, qK, qD⟩ := q
    exact ⟨q0, q1, qP, va_K.moved (u := U) (U := U.calling g mk a) (Vm.Alike.refl U.vm) qK, qD⟩
  · exact ⟨rfl, by rw [hU], by rw [hU]; exact hP, va_K.moved hW.alike hK, hD.weaken (fun _ _ _ _ => trivial)⟩
  · obtain ⟨hP1, hK1, hD1⟩ := hB
    rw [ht] at hP1
    exact kk u1 H1 locs1 hp ⟨hP1, hD1.weaken (fun k q _ h => hFc q.1 h), hS1⟩
/-- a static method that touches nothing: its contract is over the empty world -/
abbrev gMs (l : Launch) (y : MethodName) (ws : List Cond) (rm : Room) (D : va_G) (as : List Value) (r : Int32) : Prop := gMi (S := Unit) l y ws rm D [] (fun _ => []) as () (fun r1 _ => r1 = r)
theorem g_calls {r : Int32} (hC : gC p m c cc nL s args own meth ret D ty A) (hw : gH D w A s.heap u H locs) (hM : gMs l y (gW y bytes maxL rt) rm D as r) (h1 : Cond.methodLink own index y ∈ gT) (hY : gYs y bytes maxL rt as.length) (hrc : rm.cells = 0) (hrs : rm.slots = 0) (hR : rm.frames + 1 ≤ R.frames ∧ 8 + (maxL + 11) + rm.locals ≤ R.locals) (hls : ls.size = nL) (hrm : (rest.map fun v => v.category).sum ≤ 8) (hdg : decode cc pc = .ok (.invokestatic index, 3))
    (kk : ∀ (H1 : Heap) (locs1 : List Loc), gH D w A s.heap u H1 locs1 → W p l e R s m args below meth c H1 locs1 0 0 Q (F0 m (pc + 3) ls (.int r :: rest))) : W p l e R s m args below meth c H locs 0 0 Q (F0 m pc ls (as.reverse ++ rest)) := by
  obtain ⟨hF, -, hK, hA⟩ := hC
  obtain ⟨hP, hD, hS⟩ := hw
  have hFc : ∀ q, va_A [] H.size q → A q := by
    intro q h
    rcases h with ⟨k, e, h⟩ | h
    · simp at h
    · exact hA q (Nat.le_trans hS.1 h)
  refine va_calli (va_runS (As := as) (rest := rest) hF (hM H.size) (g_cwS hF.2.2.2.2 h1 hY hrc hrs hR) ⟨fun a U g mk q => ?_, fun U hU hW => ?_⟩ rfl rfl hls rfl (lv_room hrm) hdg ⟨Nat.zero_le _, Nat.zero_le _⟩) hS (fun q _ h => hFc q h) hFc (fun r1 u1 t H1 locs1 ht hvm hp hB hz1 hk1 hS1 => ?_)
  · obtain ⟨q0, q1, qP, qK, qD⟩ := q
    exact ⟨q0, q1, qP, va_K.moved (u := U) (U := U.calling g mk a) (Vm.Alike.refl U.vm) qK, qD⟩
  · exact ⟨rfl, by rw [hU], fun k q h => by simp at h, va_K.moved hW.alike (hK.sub (tys' := []) [] rfl), fun i j p q h => by simp at h, fun k q h => by simp at h⟩
  · have hp : r1 = r := hp
    subst hp
    refine kk H1 locs1 ⟨hP.kept (fun k q hq => hk1 q.1 (hP k q hq).lt (fun h => ?_)), hD, hS1⟩
    rcases h with ⟨k2, e, h⟩ | h
    · simp at h
    · exact absurd (hP k q hq).lt (Nat.not_lt.mpr h)
end GCL
end
section
theorem i_init_X : Cond.initialized R_X ∈ gT := List.mem_filter.mpr ⟨List.mem_append_right _ (List.mem_of_getElem? (i := 1) (by decide +kernel)), by decide +kernel⟩
theorem i_inst_X : Cond.instantiable R_X 6 ∈ gT := List.mem_filter.mpr ⟨List.mem_append_right _ (List.mem_of_getElem? (i := 7) (by decide +kernel)), by decide +kernel⟩
theorem i_init_M : Cond.initialized R_M ∈ gT := List.mem_filter.mpr ⟨List.mem_append_right _ (List.mem_of_getElem? (i := 2) (by decide +kernel)), by decide +kernel⟩
theorem i_inst_M : Cond.instantiable R_M 8 ∈ gT := List.mem_filter.mpr ⟨List.mem_append_right _ (List.mem_of_getElem? (i := 143) (by decide +kernel)), by decide +kernel⟩
theorem i_arr_byte : Cond.arrayClass .byte ∈ gT := List.mem_filter.mpr ⟨List.mem_append_right _ (List.mem_of_getElem? (i := 33) (by decide +kernel)), by decide +kernel⟩
theorem i_arr_int : Cond.arrayClass .int ∈ gT := List.mem_filter.mpr ⟨List.mem_append_right _ (List.mem_of_getElem? (i := 34) (by decide +kernel)), by decide +kernel⟩
theorem i_objectInit_im : Cond.instanceMethod objectInit ∈ gT := List.mem_filter.mpr ⟨List.mem_append_right _ (List.mem_of_getElem? (i := 12) (by decide +kernel)), by decide +kernel⟩
theorem i_objectInit_code : Cond.code objectInit ⟨#[0xb1]⟩ 1 none ∈ gT := List.mem_filter.mpr ⟨List.mem_append_right _ (List.mem_of_getElem? (i := 13) (by rfl)), by rfl⟩
theorem i_Math_min_static : Cond.static Lib.Math.min.name ∈ gT := List.mem_filter.mpr ⟨List.mem_append_right _ (List.mem_of_getElem? (i := 74) (by decide +kernel)), by decide +kernel⟩
theorem i_Math_init : Cond.initialized "java/lang/Math" ∈ gT := List.mem_filter.mpr ⟨List.mem_append_right _ (List.mem_of_getElem? (i := 3) (by decide +kernel)), by decide +kernel⟩
theorem i_Math_min_code : Cond.code Lib.Math.min.name Lib.Math.min.code 2 (some .int) ∈ gT := List.mem_filter.mpr ⟨List.mem_append_right _ (List.mem_of_getElem? (i := 75) (by rfl)), by rfl⟩
theorem i_arraycopy_native : Cond.native arraycopyName ∈ gT := List.mem_filter.mpr ⟨List.mem_append_right _ (List.mem_of_getElem? (i := 78) (by decide +kernel)), by decide +kernel⟩
theorem i_arraycopy_static : Cond.static arraycopyName ∈ gT := List.mem_filter.mpr ⟨List.mem_append_right _ (List.mem_of_getElem? (i := 77) (by decide +kernel)), by decide +kernel⟩
theorem i_System_init : Cond.initialized "java/lang/System" ∈ gT := List.mem_filter.mpr ⟨List.mem_append_right _ (List.mem_of_getElem? (i := 4) (by decide +kernel)), by decide +kernel⟩
theorem i_Integer_init : Cond.initialized "java/lang/Integer" ∈ gT := List.mem_filter.mpr ⟨List.mem_append_right _ (List.mem_of_getElem? (i := 5) (by decide +kernel)), by decide +kernel⟩
theorem i_st_Integer_compare : Cond.static y_Integer_compare ∈ gT := List.mem_filter.mpr ⟨List.mem_append_right _ (List.mem_of_getElem? (i := 108) (by decide +kernel)), by decide +kernel⟩
theorem i_code_Integer_compare : Cond.code y_Integer_compare b_Integer_compare 2 (some .int) ∈ gT := List.mem_filter.mpr ⟨List.mem_append_right _ (List.mem_of_getElem? (i := 109) (by rfl)), by rfl⟩
theorem f_Integer_compare : gYs y_Integer_compare b_Integer_compare 2 (some .int) 2 := ⟨i_st_Integer_compare, i_Integer_init, i_code_Integer_compare, by decide +kernel⟩
theorem hin_X : ∀ w ∈ u_ws R_X F_X 6, w ∈ gT := by decide +kernel
theorem lk_X_tape : Cond.fieldLink R_X 9 "WordTerms" "tape" "[B" ∈ gT := List.mem_filter.mpr ⟨List.mem_append_right _ (List.mem_of_getElem? (i := 14) (by decide +kernel)), by decide +kernel⟩
theorem lk_X_tapeLength : Cond.fieldLink R_X 13 "WordTerms" "tapeLength" "I" ∈ gT := List.mem_filter.mpr ⟨List.mem_append_right _ (List.mem_of_getElem? (i := 15) (by decide +kernel)), by decide +kernel⟩
theorem lk_X_signs : Cond.fieldLink R_X 17 "WordTerms" "signs" "[B" ∈ gT := List.mem_filter.mpr ⟨List.mem_append_right _ (List.mem_of_getElem? (i := 16) (by decide +kernel)), by decide +kernel⟩
theorem lk_X_lengths : Cond.fieldLink R_X 20 "WordTerms" "lengths" "[I" ∈ gT := List.mem_filter.mpr ⟨List.mem_append_right _ (List.mem_of_getElem? (i := 17) (by decide +kernel)), by decide +kernel⟩
theorem lk_X_termCount : Cond.fieldLink R_X 24 "WordTerms" "termCount" "I" ∈ gT := List.mem_filter.mpr ⟨List.mem_append_right _ (List.mem_of_getElem? (i := 18) (by decide +kernel)), by decide +kernel⟩
theorem lk_X_distances : Cond.fieldLink R_X 27 "WordTerms" "distances" "[I" ∈ gT := List.mem_filter.mpr ⟨List.mem_append_right _ (List.mem_of_getElem? (i := 19) (by decide +kernel)), by decide +kernel⟩
theorem i_code_X_init : Cond.code y_X_init b_X_init 1 none ∈ gT := List.mem_filter.mpr ⟨List.mem_append_right _ (List.mem_of_getElem? (i := 10) (by rfl)), by rfl⟩
theorem i_im_X_init : Cond.instanceMethod y_X_init ∈ gT := List.mem_filter.mpr ⟨List.mem_append_right _ (List.mem_of_getElem? (i := 9) (by decide +kernel)), by decide +kernel⟩
theorem i_code_X_feed : Cond.code y_X_feed b_X_feed 6 (some .int) ∈ gT := List.mem_filter.mpr ⟨List.mem_append_right _ (List.mem_of_getElem? (i := 38) (by rfl)), by rfl⟩
theorem i_im_X_feed : Cond.instanceMethod y_X_feed ∈ gT := List.mem_filter.mpr ⟨List.mem_append_right _ (List.mem_of_getElem? (i := 36) (by decide +kernel)), by decide +kernel⟩
theorem i_sl_X_feed : Cond.selects R_X y_X_feed y_X_feed ∈ gT := List.mem_filter.mpr ⟨List.mem_append_right _ (List.mem_of_getElem? (i := 37) (by decide +kernel)), by decide +kernel⟩
theorem f_X_feed : gY R_X y_X_feed b_X_feed 6 (some .int) 5 := ⟨i_im_X_feed, i_sl_X_feed, i_init_X, i_code_X_feed, by decide +kernel⟩
theorem i_code_X_end : Cond.code y_X_end b_X_end 2 (some .int) ∈ gT := List.mem_filter.mpr ⟨List.mem_append_right _ (List.mem_of_getElem? (i := 49) (by rfl)), by rfl⟩
theorem i_im_X_end : Cond.instanceMethod y_X_end ∈ gT := List.mem_filter.mpr ⟨List.mem_append_right _ (List.mem_of_getElem? (i := 47) (by decide +kernel)), by decide +kernel⟩
theorem i_sl_X_end : Cond.selects R_X y_X_end y_X_end ∈ gT := List.mem_filter.mpr ⟨List.mem_append_right _ (List.mem_of_getElem? (i := 48) (by decide +kernel)), by decide +kernel⟩
theorem f_X_end : gY R_X y_X_end b_X_end 2 (some .int) 1 := ⟨i_im_X_end, i_sl_X_end, i_init_X, i_code_X_end, by decide +kernel⟩
theorem i_code_X_read : Cond.code y_X_read b_X_read 3 (some .int) ∈ gT := List.mem_filter.mpr ⟨List.mem_append_right _ (List.mem_of_getElem? (i := 53) (by rfl)), by rfl⟩
theorem i_im_X_read : Cond.instanceMethod y_X_read ∈ gT := List.mem_filter.mpr ⟨List.mem_append_right _ (List.mem_of_getElem? (i := 51) (by decide +kernel)), by decide +kernel⟩
theorem i_sl_X_read : Cond.selects R_X y_X_read y_X_read ∈ gT := List.mem_filter.mpr ⟨List.mem_append_right _ (List.mem_of_getElem? (i := 52) (by decide +kernel)), by decide +kernel⟩
theorem f_X_read : gY R_X y_X_read b_X_read 3 (some .int) 0 := ⟨i_im_X_read, i_sl_X_read, i_init_X, i_code_X_read, by decide +kernel⟩
theorem i_code_X_sign : Cond.code y_X_sign b_X_sign 3 (some .int) ∈ gT := List.mem_filter.mpr ⟨List.mem_append_right _ (List.mem_of_getElem? (i := 86) (by rfl)), by rfl⟩
theorem i_im_X_sign : Cond.instanceMethod y_X_sign ∈ gT := List.mem_filter.mpr ⟨List.mem_append_right _ (List.mem_of_getElem? (i := 84) (by decide +kernel)), by decide +kernel⟩
theorem i_sl_X_sign : Cond.selects R_X y_X_sign y_X_sign ∈ gT := List.mem_filter.mpr ⟨List.mem_append_right _ (List.mem_of_getElem? (i := 85) (by decide +kernel)), by decide +kernel⟩
theorem f_X_sign : gY R_X y_X_sign b_X_sign 3 (some .int) 2 := ⟨i_im_X_sign, i_sl_X_sign, i_init_X, i_code_X_sign, by decide +kernel⟩
theorem i_code_X_different : Cond.code y_X_different b_X_different 3 (some .int) ∈ gT := List.mem_filter.mpr ⟨List.mem_append_right _ (List.mem_of_getElem? (i := 98) (by rfl)), by rfl⟩
theorem i_im_X_different : Cond.instanceMethod y_X_different ∈ gT := List.mem_filter.mpr ⟨List.mem_append_right _ (List.mem_of_getElem? (i := 96) (by decide +kernel)), by decide +kernel⟩
theorem i_sl_X_different : Cond.selects R_X y_X_different y_X_different ∈ gT := List.mem_filter.mpr ⟨List.mem_append_right _ (List.mem_of_getElem? (i := 97) (by decide +kernel)), by decide +kernel⟩
theorem f_X_different : gY R_X y_X_different b_X_different 3 (some .int) 0 := ⟨i_im_X_different, i_sl_X_different, i_init_X, i_code_X_different, by decide +kernel⟩
theorem i_code_X_first : Cond.code y_X_first b_X_first 2 (some .int) ∈ gT := List.mem_filter.mpr ⟨List.mem_append_right _ (List.mem_of_getElem? (i := 113) (by rfl)), by rfl⟩
theorem i_im_X_first : Cond.instanceMethod y_X_first ∈ gT := List.mem_filter.mpr ⟨List.mem_append_right _ (List.mem_of_getElem? (i := 111) (by decide +kernel)), by decide +kernel⟩
theorem i_sl_X_first : Cond.selects R_X y_X_first y_X_first ∈ gT := List.mem_filter.mpr ⟨List.mem_append_right _ (List.mem_of_getElem? (i := 112) (by decide +kernel)), by decide +kernel⟩
theorem f_X_first : gY R_X y_X_first b_X_first 2 (some .int) 1 := ⟨i_im_X_first, i_sl_X_first, i_init_X, i_code_X_first, by decide +kernel⟩
theorem i_code_X_compare : Cond.code y_X_compare b_X_compare 3 (some .int) ∈ gT := List.mem_filter.mpr ⟨List.mem_append_right _ (List.mem_of_getElem? (i := 117) (by rfl)), by rfl⟩
theorem i_im_X_compare : Cond.instanceMethod y_X_compare ∈ gT := List.mem_filter.mpr ⟨List.mem_append_right _ (List.mem_of_getElem? (i := 115) (by decide +kernel)), by decide +kernel⟩
theorem i_sl_X_compare : Cond.selects R_X y_X_compare y_X_compare ∈ gT := List.mem_filter.mpr ⟨List.mem_append_right _ (List.mem_of_getElem? (i := 116) (by decide +kernel)), by decide +kernel⟩
theorem f_X_compare : gY R_X y_X_compare b_X_compare 3 (some .int) 2 := ⟨i_im_X_compare, i_sl_X_compare, i_init_X, i_code_X_compare, by decide +kernel⟩
theorem i_code_X_apart : Cond.code y_X_apart b_X_apart 2 (some .int) ∈ gT := List.mem_filter.mpr ⟨List.mem_append_right _ (List.mem_of_getElem? (i := 121) (by rfl)), by rfl⟩
theorem i_im_X_apart : Cond.instanceMethod y_X_apart ∈ gT := List.mem_filter.mpr ⟨List.mem_append_right _ (List.mem_of_getElem? (i := 119) (by decide +kernel)), by decide +kernel⟩
theorem i_sl_X_apart : Cond.selects R_X y_X_apart y_X_apart ∈ gT := List.mem_filter.mpr ⟨List.mem_append_right _ (List.mem_of_getElem? (i := 120) (by decide +kernel)), by decide +kernel⟩
theorem f_X_apart : gY R_X y_X_apart b_X_apart 2 (some .int) 1 := ⟨i_im_X_apart, i_sl_X_apart, i_init_X, i_code_X_apart, by decide +kernel⟩
theorem i_code_X_nearest : Cond.code y_X_nearest b_X_nearest 5 (some .int) ∈ gT := List.mem_filter.mpr ⟨List.mem_append_right _ (List.mem_of_getElem? (i := 137) (by rfl)), by rfl⟩
theorem i_im_X_nearest : Cond.instanceMethod y_X_nearest ∈ gT := List.mem_filter.mpr ⟨List.mem_append_right _ (List.mem_of_getElem? (i := 135) (by decide +kernel)), by decide +kernel⟩
theorem i_sl_X_nearest : Cond.selects R_X y_X_nearest y_X_nearest ∈ gT := List.mem_filter.mpr ⟨List.mem_append_right _ (List.mem_of_getElem? (i := 136) (by decide +kernel)), by decide +kernel⟩
theorem f_X_nearest : gY R_X y_X_nearest b_X_nearest 5 (some .int) 0 := ⟨i_im_X_nearest, i_sl_X_nearest, i_init_X, i_code_X_nearest, by decide +kernel⟩
theorem i_code_X_plain : Cond.code y_X_plain b_X_plain 2 (some .int) ∈ gT := List.mem_filter.mpr ⟨List.mem_append_right _ (List.mem_of_getElem? (i := 141) (by rfl)), by rfl⟩
theorem i_im_X_plain : Cond.instanceMethod y_X_plain ∈ gT := List.mem_filter.mpr ⟨List.mem_append_right _ (List.mem_of_getElem? (i := 139) (by decide +kernel)), by decide +kernel⟩
theorem i_sl_X_plain : Cond.selects R_X y_X_plain y_X_plain ∈ gT := List.mem_filter.mpr ⟨List.mem_append_right _ (List.mem_of_getElem? (i := 140) (by decide +kernel)), by decide +kernel⟩
theorem f_X_plain : gY R_X y_X_plain b_X_plain 2 (some .int) 0 := ⟨i_im_X_plain, i_sl_X_plain, i_init_X, i_code_X_plain, by decide +kernel⟩
theorem i_code_X_putFour : Cond.code y_X_putFour b_X_putFour 3 none ∈ gT := List.mem_filter.mpr ⟨List.mem_append_right _ (List.mem_of_getElem? (i := 42) (by rfl)), by rfl⟩
theorem i_im_X_putFour : Cond.instanceMethod y_X_putFour ∈ gT := List.mem_filter.mpr ⟨List.mem_append_right _ (List.mem_of_getElem? (i := 41) (by decide +kernel)), by decide +kernel⟩
theorem i_sl_X_putFour : Cond.selects R_X y_X_putFour y_X_putFour ∈ gT := List.mem_filter.mpr ⟨List.mem_append_left _ (List.mem_of_getElem? (i := 0) (by decide +kernel)), by decide +kernel⟩
theorem f_X_putFour : gY R_X y_X_putFour b_X_putFour 3 none 1 := ⟨i_im_X_putFour, i_sl_X_putFour, i_init_X, i_code_X_putFour, by decide +kernel⟩
theorem i_code_X_small : Cond.code y_X_small b_X_small 1 (some .byte) ∈ gT := List.mem_filter.mpr ⟨List.mem_append_right _ (List.mem_of_getElem? (i := 45) (by rfl)), by rfl⟩
theorem i_st_X_small : Cond.static y_X_small ∈ gT := List.mem_filter.mpr ⟨List.mem_append_right _ (List.mem_of_getElem? (i := 44) (by decide +kernel)), by decide +kernel⟩
theorem f_X_small : gYs y_X_small b_X_small 1 (some .byte) 1 := ⟨i_st_X_small, i_init_X, i_code_X_small, by decide +kernel⟩
theorem i_code_X_isSign : Cond.code y_X_isSign b_X_isSign 1 (some .boolean) ∈ gT := List.mem_filter.mpr ⟨List.mem_append_right _ (List.mem_of_getElem? (i := 56) (by rfl)), by rfl⟩
theorem i_st_X_isSign : Cond.static y_X_isSign ∈ gT := List.mem_filter.mpr ⟨List.mem_append_right _ (List.mem_of_getElem? (i := 55) (by decide +kernel)), by decide +kernel⟩
theorem f_X_isSign : gYs y_X_isSign b_X_isSign 1 (some .boolean) 1 := ⟨i_st_X_isSign, i_init_X, i_code_X_isSign, by decide +kernel⟩
theorem i_code_X_tapeIsWord : Cond.code y_X_tapeIsWord b_X_tapeIsWord 2 (some .boolean) ∈ gT := List.mem_filter.mpr ⟨List.mem_append_right _ (List.mem_of_getElem? (i := 129) (by rfl)), by rfl⟩
theorem i_im_X_tapeIsWord : Cond.instanceMethod y_X_tapeIsWord ∈ gT := List.mem_filter.mpr ⟨List.mem_append_right _ (List.mem_of_getElem? (i := 128) (by decide +kernel)), by decide +kernel⟩
theorem i_sl_X_tapeIsWord : Cond.selects R_X y_X_tapeIsWord y_X_tapeIsWord ∈ gT := List.mem_filter.mpr ⟨List.mem_append_left _ (List.mem_of_getElem? (i := 11) (by decide +kernel)), by decide +kernel⟩
theorem f_X_tapeIsWord : gY R_X y_X_tapeIsWord b_X_tapeIsWord 2 (some .boolean) 0 := ⟨i_im_X_tapeIsWord, i_sl_X_tapeIsWord, i_init_X, i_code_X_tapeIsWord, by decide +kernel⟩
theorem i_code_X_takeTapeTerm : Cond.code y_X_takeTapeTerm b_X_takeTapeTerm 2 (some .boolean) ∈ gT := List.mem_filter.mpr ⟨List.mem_append_right _ (List.mem_of_getElem? (i := 125) (by rfl)), by rfl⟩
theorem i_im_X_takeTapeTerm : Cond.instanceMethod y_X_takeTapeTerm ∈ gT := List.mem_filter.mpr ⟨List.mem_append_right _ (List.mem_of_getElem? (i := 124) (by decide +kernel)), by decide +kernel⟩
theorem i_sl_X_takeTapeTerm : Cond.selects R_X y_X_takeTapeTerm y_X_takeTapeTerm ∈ gT := List.mem_filter.mpr ⟨List.mem_append_left _ (List.mem_of_getElem? (i := 10) (by decide +kernel)), by decide +kernel⟩
theorem f_X_takeTapeTerm : gY R_X y_X_takeTapeTerm b_X_takeTapeTerm 2 (some .boolean) 0 := ⟨i_im_X_takeTapeTerm, i_sl_X_takeTapeTerm, i_init_X, i_code_X_takeTapeTerm, by decide +kernel⟩
theorem i_code_X_addTerm : Cond.code y_X_addTerm b_X_addTerm 3 none ∈ gT := List.mem_filter.mpr ⟨List.mem_append_right _ (List.mem_of_getElem? (i := 60) (by rfl)), by rfl⟩
theorem i_im_X_addTerm : Cond.instanceMethod y_X_addTerm ∈ gT := List.mem_filter.mpr ⟨List.mem_append_right _ (List.mem_of_getElem? (i := 59) (by decide +kernel)), by decide +kernel⟩
theorem i_sl_X_addTerm : Cond.selects R_X y_X_addTerm y_X_addTerm ∈ gT := List.mem_filter.mpr ⟨List.mem_append_left _ (List.mem_of_getElem? (i := 1) (by decide +kernel)), by decide +kernel⟩
theorem f_X_addTerm : gY R_X y_X_addTerm b_X_addTerm 3 none 2 := ⟨i_im_X_addTerm, i_sl_X_addTerm, i_init_X, i_code_X_addTerm, by decide +kernel⟩
theorem i_code_X_writeTerm : Cond.code y_X_writeTerm b_X_writeTerm 5 none ∈ gT := List.mem_filter.mpr ⟨List.mem_append_right _ (List.mem_of_getElem? (i := 64) (by rfl)), by rfl⟩
theorem i_im_X_writeTerm : Cond.instanceMethod y_X_writeTerm ∈ gT := List.mem_filter.mpr ⟨List.mem_append_right _ (List.mem_of_getElem? (i := 63) (by decide +kernel)), by decide +kernel⟩
theorem i_sl_X_writeTerm : Cond.selects R_X y_X_writeTerm y_X_writeTerm ∈ gT := List.mem_filter.mpr ⟨List.mem_append_left _ (List.mem_of_getElem? (i := 2) (by decide +kernel)), by decide +kernel⟩
theorem f_X_writeTerm : gY R_X y_X_writeTerm b_X_writeTerm 5 none 3 := ⟨i_im_X_writeTerm, i_sl_X_writeTerm, i_init_X, i_code_X_writeTerm, by decide +kernel⟩
theorem i_code_X_endsWithIes : Cond.code y_X_endsWithIes b_X_endsWithIes 2 (some .boolean) ∈ gT := List.mem_filter.mpr ⟨List.mem_append_right _ (List.mem_of_getElem? (i := 68) (by rfl)), by rfl⟩
theorem i_im_X_endsWithIes : Cond.instanceMethod y_X_endsWithIes ∈ gT := List.mem_filter.mpr ⟨List.mem_append_right _ (List.mem_of_getElem? (i := 67) (by decide +kernel)), by decide +kernel⟩
theorem i_sl_X_endsWithIes : Cond.selects R_X y_X_endsWithIes y_X_endsWithIes ∈ gT := List.mem_filter.mpr ⟨List.mem_append_left _ (List.mem_of_getElem? (i := 3) (by decide +kernel)), by decide +kernel⟩
theorem f_X_endsWithIes : gY R_X y_X_endsWithIes b_X_endsWithIes 2 (some .boolean) 1 := ⟨i_im_X_endsWithIes, i_sl_X_endsWithIes, i_init_X, i_code_X_endsWithIes, by decide +kernel⟩
theorem i_code_X_endsWithLooseS : Cond.code y_X_endsWithLooseS b_X_endsWithLooseS 2 (some .boolean) ∈ gT := List.mem_filter.mpr ⟨List.mem_append_right _ (List.mem_of_getElem? (i := 82) (by rfl)), by rfl⟩
theorem i_im_X_endsWithLooseS : Cond.instanceMethod y_X_endsWithLooseS ∈ gT := List.mem_filter.mpr ⟨List.mem_append_right _ (List.mem_of_getElem? (i := 81) (by decide +kernel)), by decide +kernel⟩
theorem i_sl_X_endsWithLooseS : Cond.selects R_X y_X_endsWithLooseS y_X_endsWithLooseS ∈ gT := List.mem_filter.mpr ⟨List.mem_append_left _ (List.mem_of_getElem? (i := 5) (by decide +kernel)), by decide +kernel⟩
theorem f_X_endsWithLooseS : gY R_X y_X_endsWithLooseS b_X_endsWithLooseS 2 (some .boolean) 1 := ⟨i_im_X_endsWithLooseS, i_sl_X_endsWithLooseS, i_init_X, i_code_X_endsWithLooseS, by decide +kernel⟩
theorem i_code_X_writeSigns : Cond.code y_X_writeSigns b_X_writeSigns 5 none ∈ gT := List.mem_filter.mpr ⟨List.mem_append_right _ (List.mem_of_getElem? (i := 72) (by rfl)), by rfl⟩
theorem i_im_X_writeSigns : Cond.instanceMethod y_X_writeSigns ∈ gT := List.mem_filter.mpr ⟨List.mem_append_right _ (List.mem_of_getElem? (i := 71) (by decide +kernel)), by decide +kernel⟩
theorem i_sl_X_writeSigns : Cond.selects R_X y_X_writeSigns y_X_writeSigns ∈ gT := List.mem_filter.mpr ⟨List.mem_append_left _ (List.mem_of_getElem? (i := 4) (by decide +kernel)), by decide +kernel⟩
theorem f_X_writeSigns : gY R_X y_X_writeSigns b_X_writeSigns 5 none 3 := ⟨i_im_X_writeSigns, i_sl_X_writeSigns, i_init_X, i_code_X_writeSigns, by decide +kernel⟩
theorem i_code_X_hasTerm : Cond.code y_X_hasTerm b_X_hasTerm 2 (some .boolean) ∈ gT := List.mem_filter.mpr ⟨List.mem_append_right _ (List.mem_of_getElem? (i := 90) (by rfl)), by rfl⟩
theorem i_im_X_hasTerm : Cond.instanceMethod y_X_hasTerm ∈ gT := List.mem_filter.mpr ⟨List.mem_append_right _ (List.mem_of_getElem? (i := 89) (by decide +kernel)), by decide +kernel⟩
theorem i_sl_X_hasTerm : Cond.selects R_X y_X_hasTerm y_X_hasTerm ∈ gT := List.mem_filter.mpr ⟨List.mem_append_left _ (List.mem_of_getElem? (i := 6) (by decide +kernel)), by decide +kernel⟩
theorem f_X_hasTerm : gY R_X y_X_hasTerm b_X_hasTerm 2 (some .boolean) 1 := ⟨i_im_X_hasTerm, i_sl_X_hasTerm, i_init_X, i_code_X_hasTerm, by decide +kernel⟩
theorem i_code_X_signAt : Cond.code y_X_signAt b_X_signAt 3 (some .int) ∈ gT := List.mem_filter.mpr ⟨List.mem_append_right _ (List.mem_of_getElem? (i := 94) (by rfl)), by rfl⟩
theorem i_im_X_signAt : Cond.instanceMethod y_X_signAt ∈ gT := List.mem_filter.mpr ⟨List.mem_append_right _ (List.mem_of_getElem? (i := 93) (by decide +kernel)), by decide +kernel⟩
theorem i_sl_X_signAt : Cond.selects R_X y_X_signAt y_X_signAt ∈ gT := List.mem_filter.mpr ⟨List.mem_append_left _ (List.mem_of_getElem? (i := 7) (by decide +kernel)), by decide +kernel⟩
theorem f_X_signAt : gY R_X y_X_signAt b_X_signAt 3 (some .int) 2 := ⟨i_im_X_signAt, i_sl_X_signAt, i_init_X, i_code_X_signAt, by decide +kernel⟩
theorem i_code_X_firstSame : Cond.code y_X_firstSame b_X_firstSame 3 (some .int) ∈ gT := List.mem_filter.mpr ⟨List.mem_append_right _ (List.mem_of_getElem? (i := 102) (by rfl)), by rfl⟩
theorem i_im_X_firstSame : Cond.instanceMethod y_X_firstSame ∈ gT := List.mem_filter.mpr ⟨List.mem_append_right _ (List.mem_of_getElem? (i := 101) (by decide +kernel)), by decide +kernel⟩
theorem i_sl_X_firstSame : Cond.selects R_X y_X_firstSame y_X_firstSame ∈ gT := List.mem_filter.mpr ⟨List.mem_append_left _ (List.mem_of_getElem? (i := 8) (by decide +kernel)), by decide +kernel⟩
theorem f_X_firstSame : gY R_X y_X_firstSame b_X_firstSame 3 (some .int) 1 := ⟨i_im_X_firstSame, i_sl_X_firstSame, i_init_X, i_code_X_firstSame, by decide +kernel⟩
theorem i_code_X_order : Cond.code y_X_order b_X_order 5 (some .int) ∈ gT := List.mem_filter.mpr ⟨List.mem_append_right _ (List.mem_of_getElem? (i := 106) (by rfl)), by rfl⟩
theorem i_im_X_order : Cond.instanceMethod y_X_order ∈ gT := List.mem_filter.mpr ⟨List.mem_append_right _ (List.mem_of_getElem? (i := 105) (by decide +kernel)), by decide +kernel⟩
theorem i_sl_X_order : Cond.selects R_X y_X_order y_X_order ∈ gT := List.mem_filter.mpr ⟨List.mem_append_left _ (List.mem_of_getElem? (i := 9) (by decide +kernel)), by decide +kernel⟩
theorem f_X_order : gY R_X y_X_order b_X_order 5 (some .int) 2 := ⟨i_im_X_order, i_sl_X_order, i_init_X, i_code_X_order, by decide +kernel⟩
theorem i_code_X_distance : Cond.code y_X_distance b_X_distance 8 (some .int) ∈ gT := List.mem_filter.mpr ⟨List.mem_append_right _ (List.mem_of_getElem? (i := 133) (by rfl)), by rfl⟩
theorem i_im_X_distance : Cond.instanceMethod y_X_distance ∈ gT := List.mem_filter.mpr ⟨List.mem_append_right _ (List.mem_of_getElem? (i := 132) (by decide +kernel)), by decide +kernel⟩
theorem i_sl_X_distance : Cond.selects R_X y_X_distance y_X_distance ∈ gT := List.mem_filter.mpr ⟨List.mem_append_left _ (List.mem_of_getElem? (i := 12) (by decide +kernel)), by decide +kernel⟩
theorem f_X_distance : gY R_X y_X_distance b_X_distance 8 (some .int) 2 := ⟨i_im_X_distance, i_sl_X_distance, i_init_X, i_code_X_distance, by decide +kernel⟩
theorem hin_M : ∀ w ∈ u_ws R_M F_M 8, w ∈ gT := by decide +kernel
theorem lk_M_tape : Cond.fieldLink R_M 9 "WordTermsModel" "tape" "[B" ∈ gT := List.mem_filter.mpr ⟨List.mem_append_right _ (List.mem_of_getElem? (i := 148) (by decide +kernel)), by decide +kernel⟩
theorem lk_M_length : Cond.fieldLink R_M 26 "WordTermsModel" "length" "I" ∈ gT := List.mem_filter.mpr ⟨List.mem_append_right _ (List.mem_of_getElem? (i := 149) (by decide +kernel)), by decide +kernel⟩
theorem lk_M_terms : Cond.fieldLink R_M 13 "WordTermsModel" "terms" "[B" ∈ gT := List.mem_filter.mpr ⟨List.mem_append_right _ (List.mem_of_getElem? (i := 150) (by decide +kernel)), by decide +kernel⟩
theorem lk_M_sizes : Cond.fieldLink R_M 16 "WordTermsModel" "sizes" "[I" ∈ gT := List.mem_filter.mpr ⟨List.mem_append_right _ (List.mem_of_getElem? (i := 151) (by decide +kernel)), by decide +kernel⟩
theorem lk_M_count : Cond.fieldLink R_M 48 "WordTermsModel" "count" "I" ∈ gT := List.mem_filter.mpr ⟨List.mem_append_right _ (List.mem_of_getElem? (i := 152) (by decide +kernel)), by decide +kernel⟩
theorem lk_M_word : Cond.fieldLink R_M 20 "WordTermsModel" "word" "[B" ∈ gT := List.mem_filter.mpr ⟨List.mem_append_right _ (List.mem_of_getElem? (i := 153) (by decide +kernel)), by decide +kernel⟩
theorem lk_M_wordLength : Cond.fieldLink R_M 34 "WordTermsModel" "wordLength" "I" ∈ gT := List.mem_filter.mpr ⟨List.mem_append_right _ (List.mem_of_getElem? (i := 154) (by decide +kernel)), by decide +kernel⟩
theorem lk_M_table : Cond.fieldLink R_M 23 "WordTermsModel" "table" "[I" ∈ gT := List.mem_filter.mpr ⟨List.mem_append_right _ (List.mem_of_getElem? (i := 155) (by decide +kernel)), by decide +kernel⟩
theorem i_code_M_init : Cond.code y_M_init b_M_init 1 none ∈ gT := List.mem_filter.mpr ⟨List.mem_append_right _ (List.mem_of_getElem? (i := 146) (by rfl)), by rfl⟩
theorem i_im_M_init : Cond.instanceMethod y_M_init ∈ gT := List.mem_filter.mpr ⟨List.mem_append_right _ (List.mem_of_getElem? (i := 145) (by decide +kernel)), by decide +kernel⟩
theorem i_code_M_put : Cond.code y_M_put b_M_put 3 none ∈ gT := List.mem_filter.mpr ⟨List.mem_append_right _ (List.mem_of_getElem? (i := 180) (by rfl)), by rfl⟩
theorem i_im_M_put : Cond.instanceMethod y_M_put ∈ gT := List.mem_filter.mpr ⟨List.mem_append_right _ (List.mem_of_getElem? (i := 179) (by decide +kernel)), by decide +kernel⟩
theorem i_sl_M_put : Cond.selects R_M y_M_put y_M_put ∈ gT := List.mem_filter.mpr ⟨List.mem_append_left _ (List.mem_of_getElem? (i := 13) (by decide +kernel)), by decide +kernel⟩
theorem f_M_put : gY R_M y_M_put b_M_put 3 none 1 := ⟨i_im_M_put, i_sl_M_put, i_init_M, i_code_M_put, by decide +kernel⟩
theorem i_code_M_feed : Cond.code y_M_feed b_M_feed 6 (some .int) ∈ gT := List.mem_filter.mpr ⟨List.mem_append_right _ (List.mem_of_getElem? (i := 176) (by rfl)), by rfl⟩
theorem i_im_M_feed : Cond.instanceMethod y_M_feed ∈ gT := List.mem_filter.mpr ⟨List.mem_append_right _ (List.mem_of_getElem? (i := 174) (by decide +kernel)), by decide +kernel⟩
theorem i_sl_M_feed : Cond.selects R_M y_M_feed y_M_feed ∈ gT := List.mem_filter.mpr ⟨List.mem_append_right _ (List.mem_of_getElem? (i := 175) (by decide +kernel)), by decide +kernel⟩
theorem f_M_feed : gY R_M y_M_feed b_M_feed 6 (some .int) 5 := ⟨i_im_M_feed, i_sl_M_feed, i_init_M, i_code_M_feed, by decide +kernel⟩
theorem i_code_M_end : Cond.code y_M_end b_M_end 2 (some .int) ∈ gT := List.mem_filter.mpr ⟨List.mem_append_right _ (List.mem_of_getElem? (i := 184) (by rfl)), by rfl⟩
theorem i_im_M_end : Cond.instanceMethod y_M_end ∈ gT := List.mem_filter.mpr ⟨List.mem_append_right _ (List.mem_of_getElem? (i := 182) (by decide +kernel)), by decide +kernel⟩
theorem i_sl_M_end : Cond.selects R_M y_M_end y_M_end ∈ gT := List.mem_filter.mpr ⟨List.mem_append_right _ (List.mem_of_getElem? (i := 183) (by decide +kernel)), by decide +kernel⟩
theorem f_M_end : gY R_M y_M_end b_M_end 2 (some .int) 1 := ⟨i_im_M_end, i_sl_M_end, i_init_M, i_code_M_end, by decide +kernel⟩
theorem i_code_M_letter : Cond.code y_M_letter b_M_letter 1 (some .boolean) ∈ gT := List.mem_filter.mpr ⟨List.mem_append_right _ (List.mem_of_getElem? (i := 191) (by rfl)), by rfl⟩
theorem i_st_M_letter : Cond.static y_M_letter ∈ gT := List.mem_filter.mpr ⟨List.mem_append_right _ (List.mem_of_getElem? (i := 190) (by decide +kernel)), by decide +kernel⟩
theorem f_M_letter : gYs y_M_letter b_M_letter 1 (some .boolean) 1 := ⟨i_st_M_letter, i_init_M, i_code_M_letter, by decide +kernel⟩
theorem i_code_M_run : Cond.code y_M_run b_M_run 3 (some .int) ∈ gT := List.mem_filter.mpr ⟨List.mem_append_right _ (List.mem_of_getElem? (i := 195) (by rfl)), by rfl⟩
theorem i_im_M_run : Cond.instanceMethod y_M_run ∈ gT := List.mem_filter.mpr ⟨List.mem_append_right _ (List.mem_of_getElem? (i := 194) (by decide +kernel)), by decide +kernel⟩
theorem i_sl_M_run : Cond.selects R_M y_M_run y_M_run ∈ gT := List.mem_filter.mpr ⟨List.mem_append_left _ (List.mem_of_getElem? (i := 14) (by decide +kernel)), by decide +kernel⟩
theorem f_M_run : gY R_M y_M_run b_M_run 3 (some .int) 1 := ⟨i_im_M_run, i_sl_M_run, i_init_M, i_code_M_run, by decide +kernel⟩
theorem i_code_M_last : Cond.code y_M_last b_M_last 2 (some .int) ∈ gT := List.mem_filter.mpr ⟨List.mem_append_right _ (List.mem_of_getElem? (i := 203) (by rfl)), by rfl⟩
theorem i_im_M_last : Cond.instanceMethod y_M_last ∈ gT := List.mem_filter.mpr ⟨List.mem_append_right _ (List.mem_of_getElem? (i := 202) (by decide +kernel)), by decide +kernel⟩
theorem i_sl_M_last : Cond.selects R_M y_M_last y_M_last ∈ gT := List.mem_filter.mpr ⟨List.mem_append_left _ (List.mem_of_getElem? (i := 16) (by decide +kernel)), by decide +kernel⟩
theorem f_M_last : gY R_M y_M_last b_M_last 2 (some .int) 1 := ⟨i_im_M_last, i_sl_M_last, i_init_M, i_code_M_last, by decide +kernel⟩
theorem i_code_M_note : Cond.code y_M_note b_M_note 5 none ∈ gT := List.mem_filter.mpr ⟨List.mem_append_right _ (List.mem_of_getElem? (i := 199) (by rfl)), by rfl⟩
theorem i_im_M_note : Cond.instanceMethod y_M_note ∈ gT := List.mem_filter.mpr ⟨List.mem_append_right _ (List.mem_of_getElem? (i := 198) (by decide +kernel)), by decide +kernel⟩
theorem i_sl_M_note : Cond.selects R_M y_M_note y_M_note ∈ gT := List.mem_filter.mpr ⟨List.mem_append_left _ (List.mem_of_getElem? (i := 15) (by decide +kernel)), by decide +kernel⟩
theorem f_M_note : gY R_M y_M_note b_M_note 5 none 2 := ⟨i_im_M_note, i_sl_M_note, i_init_M, i_code_M_note, by decide +kernel⟩
theorem i_code_M_oneWord : Cond.code y_M_oneWord b_M_oneWord 2 (some .boolean) ∈ gT := List.mem_filter.mpr ⟨List.mem_append_right _ (List.mem_of_getElem? (i := 236) (by rfl)), by rfl⟩
theorem i_im_M_oneWord : Cond.instanceMethod y_M_oneWord ∈ gT := List.mem_filter.mpr ⟨List.mem_append_right _ (List.mem_of_getElem? (i := 235) (by decide +kernel)), by decide +kernel⟩
theorem i_sl_M_oneWord : Cond.selects R_M y_M_oneWord y_M_oneWord ∈ gT := List.mem_filter.mpr ⟨List.mem_append_left _ (List.mem_of_getElem? (i := 19) (by decide +kernel)), by decide +kernel⟩
theorem f_M_oneWord : gY R_M y_M_oneWord b_M_oneWord 2 (some .boolean) 0 := ⟨i_im_M_oneWord, i_sl_M_oneWord, i_init_M, i_code_M_oneWord, by decide +kernel⟩
theorem i_code_M_read : Cond.code y_M_read b_M_read 2 (some .int) ∈ gT := List.mem_filter.mpr ⟨List.mem_append_right _ (List.mem_of_getElem? (i := 188) (by rfl)), by rfl⟩
theorem i_im_M_read : Cond.instanceMethod y_M_read ∈ gT := List.mem_filter.mpr ⟨List.mem_append_right _ (List.mem_of_getElem? (i := 186) (by decide +kernel)), by decide +kernel⟩
theorem i_sl_M_read : Cond.selects R_M y_M_read y_M_read ∈ gT := List.mem_filter.mpr ⟨List.mem_append_right _ (List.mem_of_getElem? (i := 187) (by decide +kernel)), by decide +kernel⟩
theorem f_M_read : gY R_M y_M_read b_M_read 2 (some .int) 0 := ⟨i_im_M_read, i_sl_M_read, i_init_M, i_code_M_read, by decide +kernel⟩
theorem i_code_M_is : Cond.code y_M_is b_M_is 2 (some .boolean) ∈ gT := List.mem_filter.mpr ⟨List.mem_append_right _ (List.mem_of_getElem? (i := 211) (by rfl)), by rfl⟩
theorem i_im_M_is : Cond.instanceMethod y_M_is ∈ gT := List.mem_filter.mpr ⟨List.mem_append_right _ (List.mem_of_getElem? (i := 210) (by decide +kernel)), by decide +kernel⟩
theorem i_sl_M_is : Cond.selects R_M y_M_is y_M_is ∈ gT := List.mem_filter.mpr ⟨List.mem_append_left _ (List.mem_of_getElem? (i := 17) (by decide +kernel)), by decide +kernel⟩
theorem f_M_is : gY R_M y_M_is b_M_is 2 (some .boolean) 1 := ⟨i_im_M_is, i_sl_M_is, i_init_M, i_code_M_is, by decide +kernel⟩
theorem i_code_M_sign : Cond.code y_M_sign b_M_sign 3 (some .int) ∈ gT := List.mem_filter.mpr ⟨List.mem_append_right _ (List.mem_of_getElem? (i := 207) (by rfl)), by rfl⟩
theorem i_im_M_sign : Cond.instanceMethod y_M_sign ∈ gT := List.mem_filter.mpr ⟨List.mem_append_right _ (List.mem_of_getElem? (i := 205) (by decide +kernel)), by decide +kernel⟩
theorem i_sl_M_sign : Cond.selects R_M y_M_sign y_M_sign ∈ gT := List.mem_filter.mpr ⟨List.mem_append_right _ (List.mem_of_getElem? (i := 206) (by decide +kernel)), by decide +kernel⟩
theorem f_M_sign : gY R_M y_M_sign b_M_sign 3 (some .int) 2 := ⟨i_im_M_sign, i_sl_M_sign, i_init_M, i_code_M_sign, by decide +kernel⟩
theorem i_code_M_order : Cond.code y_M_order b_M_order 4 (some .int) ∈ gT := List.mem_filter.mpr ⟨List.mem_append_right _ (List.mem_of_getElem? (i := 219) (by rfl)), by rfl⟩
theorem i_im_M_order : Cond.instanceMethod y_M_order ∈ gT := List.mem_filter.mpr ⟨List.mem_append_right _ (List.mem_of_getElem? (i := 218) (by decide +kernel)), by decide +kernel⟩
theorem i_sl_M_order : Cond.selects R_M y_M_order y_M_order ∈ gT := List.mem_filter.mpr ⟨List.mem_append_left _ (List.mem_of_getElem? (i := 18) (by decide +kernel)), by decide +kernel⟩
theorem f_M_order : gY R_M y_M_order b_M_order 4 (some .int) 2 := ⟨i_im_M_order, i_sl_M_order, i_init_M, i_code_M_order, by decide +kernel⟩
theorem i_code_M_first : Cond.code y_M_first b_M_first 3 (some .int) ∈ gT := List.mem_filter.mpr ⟨List.mem_append_right _ (List.mem_of_getElem? (i := 215) (by rfl)), by rfl⟩
theorem i_im_M_first : Cond.instanceMethod y_M_first ∈ gT := List.mem_filter.mpr ⟨List.mem_append_right _ (List.mem_of_getElem? (i := 213) (by decide +kernel)), by decide +kernel⟩
theorem i_sl_M_first : Cond.selects R_M y_M_first y_M_first ∈ gT := List.mem_filter.mpr ⟨List.mem_append_right _ (List.mem_of_getElem? (i := 214) (by decide +kernel)), by decide +kernel⟩
theorem f_M_first : gY R_M y_M_first b_M_first 3 (some .int) 1 := ⟨i_im_M_first, i_sl_M_first, i_init_M, i_code_M_first, by decide +kernel⟩
theorem i_code_M_different : Cond.code y_M_different b_M_different 3 (some .int) ∈ gT := List.mem_filter.mpr ⟨List.mem_append_right _ (List.mem_of_getElem? (i := 223) (by rfl)), by rfl⟩
theorem i_im_M_different : Cond.instanceMethod y_M_different ∈ gT := List.mem_filter.mpr ⟨List.mem_append_right _ (List.mem_of_getElem? (i := 221) (by decide +kernel)), by decide +kernel⟩
theorem i_sl_M_different : Cond.selects R_M y_M_different y_M_different ∈ gT := List.mem_filter.mpr ⟨List.mem_append_right _ (List.mem_of_getElem? (i := 222) (by decide +kernel)), by decide +kernel⟩
theorem f_M_different : gY R_M y_M_different b_M_different 3 (some .int) 0 := ⟨i_im_M_different, i_sl_M_different, i_init_M, i_code_M_different, by decide +kernel⟩
theorem i_code_M_compare : Cond.code y_M_compare b_M_compare 3 (some .int) ∈ gT := List.mem_filter.mpr ⟨List.mem_append_right _ (List.mem_of_getElem? (i := 228) (by rfl)), by rfl⟩
theorem i_im_M_compare : Cond.instanceMethod y_M_compare ∈ gT := List.mem_filter.mpr ⟨List.mem_append_right _ (List.mem_of_getElem? (i := 226) (by decide +kernel)), by decide +kernel⟩
theorem i_sl_M_compare : Cond.selects R_M y_M_compare y_M_compare ∈ gT := List.mem_filter.mpr ⟨List.mem_append_right _ (List.mem_of_getElem? (i := 227) (by decide +kernel)), by decide +kernel⟩
theorem f_M_compare : gY R_M y_M_compare b_M_compare 3 (some .int) 2 := ⟨i_im_M_compare, i_sl_M_compare, i_init_M, i_code_M_compare, by decide +kernel⟩
theorem i_code_M_distance : Cond.code y_M_distance b_M_distance 7 (some .int) ∈ gT := List.mem_filter.mpr ⟨List.mem_append_right _ (List.mem_of_getElem? (i := 240) (by rfl)), by rfl⟩
theorem i_im_M_distance : Cond.instanceMethod y_M_distance ∈ gT := List.mem_filter.mpr ⟨List.mem_append_right _ (List.mem_of_getElem? (i := 239) (by decide +kernel)), by decide +kernel⟩
theorem i_sl_M_distance : Cond.selects R_M y_M_distance y_M_distance ∈ gT := List.mem_filter.mpr ⟨List.mem_append_left _ (List.mem_of_getElem? (i := 20) (by decide +kernel)), by decide +kernel⟩
theorem f_M_distance : gY R_M y_M_distance b_M_distance 7 (some .int) 2 := ⟨i_im_M_distance, i_sl_M_distance, i_init_M, i_code_M_distance, by decide +kernel⟩
theorem i_code_M_apart : Cond.code y_M_apart b_M_apart 2 (some .int) ∈ gT := List.mem_filter.mpr ⟨List.mem_append_right _ (List.mem_of_getElem? (i := 232) (by rfl)), by rfl⟩
theorem i_im_M_apart : Cond.instanceMethod y_M_apart ∈ gT := List.mem_filter.mpr ⟨List.mem_append_right _ (List.mem_of_getElem? (i := 230) (by decide +kernel)), by decide +kernel⟩
theorem i_sl_M_apart : Cond.selects R_M y_M_apart y_M_apart ∈ gT := List.mem_filter.mpr ⟨List.mem_append_right _ (List.mem_of_getElem? (i := 231) (by decide +kernel)), by decide +kernel⟩
theorem f_M_apart : gY R_M y_M_apart b_M_apart 2 (some .int) 1 := ⟨i_im_M_apart, i_sl_M_apart, i_init_M, i_code_M_apart, by decide +kernel⟩
theorem i_code_M_nearest : Cond.code y_M_nearest b_M_nearest 5 (some .int) ∈ gT := List.mem_filter.mpr ⟨List.mem_append_right _ (List.mem_of_getElem? (i := 244) (by rfl)), by rfl⟩
theorem i_im_M_nearest : Cond.instanceMethod y_M_nearest ∈ gT := List.mem_filter.mpr ⟨List.mem_append_right _ (List.mem_of_getElem? (i := 242) (by decide +kernel)), by decide +kernel⟩
theorem i_sl_M_nearest : Cond.selects R_M y_M_nearest y_M_nearest ∈ gT := List.mem_filter.mpr ⟨List.mem_append_right _ (List.mem_of_getElem? (i := 243) (by decide +kernel)), by decide +kernel⟩
theorem f_M_nearest : gY R_M y_M_nearest b_M_nearest 5 (some .int) 0 := ⟨i_im_M_nearest, i_sl_M_nearest, i_init_M, i_code_M_nearest, by decide +kernel⟩
theorem i_code_M_plain : Cond.code y_M_plain b_M_plain 1 (some .int) ∈ gT := List.mem_filter.mpr ⟨List.mem_append_right _ (List.mem_of_getElem? (i := 248) (by rfl)), by rfl⟩
theorem i_im_M_plain : Cond.instanceMethod y_M_plain ∈ gT := List.mem_filter.mpr ⟨List.mem_append_right _ (List.mem_of_getElem? (i := 246) (by decide +kernel)), by decide +kernel⟩
theorem i_sl_M_plain : Cond.selects R_M y_M_plain y_M_plain ∈ gT := List.mem_filter.mpr ⟨List.mem_append_right _ (List.mem_of_getElem? (i := 247) (by decide +kernel)), by decide +kernel⟩
theorem f_M_plain : gY R_M y_M_plain b_M_plain 1 (some .int) 0 := ⟨i_im_M_plain, i_sl_M_plain, i_init_M, i_code_M_plain, by decide +kernel⟩
theorem lm_X_objectInit : Cond.methodLink R_X 3 objectInit ∈ gT := List.mem_filter.mpr ⟨List.mem_append_right _ (List.mem_of_getElem? (i := 11) (by decide +kernel)), by decide +kernel⟩
theorem lm_X_putFour : Cond.methodLink R_X 30 y_X_putFour ∈ gT := List.mem_filter.mpr ⟨List.mem_append_right _ (List.mem_of_getElem? (i := 39) (by decide +kernel)), by decide +kernel⟩
theorem lm_X_isSign : Cond.methodLink R_X 34 y_X_isSign ∈ gT := List.mem_filter.mpr ⟨List.mem_append_right _ (List.mem_of_getElem? (i := 54) (by decide +kernel)), by decide +kernel⟩
theorem lm_X_addTerm : Cond.methodLink R_X 38 y_X_addTerm ∈ gT := List.mem_filter.mpr ⟨List.mem_append_right _ (List.mem_of_getElem? (i := 57) (by decide +kernel)), by decide +kernel⟩
theorem lm_X_hasTerm : Cond.methodLink R_X 42 y_X_hasTerm ∈ gT := List.mem_filter.mpr ⟨List.mem_append_right _ (List.mem_of_getElem? (i := 87) (by decide +kernel)), by decide +kernel⟩
theorem lm_X_signAt : Cond.methodLink R_X 46 y_X_signAt ∈ gT := List.mem_filter.mpr ⟨List.mem_append_right _ (List.mem_of_getElem? (i := 91) (by decide +kernel)), by decide +kernel⟩
theorem lm_X_firstSame : Cond.methodLink R_X 50 y_X_firstSame ∈ gT := List.mem_filter.mpr ⟨List.mem_append_right _ (List.mem_of_getElem? (i := 99) (by decide +kernel)), by decide +kernel⟩
theorem lm_X_order : Cond.methodLink R_X 54 y_X_order ∈ gT := List.mem_filter.mpr ⟨List.mem_append_right _ (List.mem_of_getElem? (i := 103) (by decide +kernel)), by decide +kernel⟩
theorem lm_X_takeTapeTerm : Cond.methodLink R_X 57 y_X_takeTapeTerm ∈ gT := List.mem_filter.mpr ⟨List.mem_append_right _ (List.mem_of_getElem? (i := 122) (by decide +kernel)), by decide +kernel⟩
theorem lm_X_distance : Cond.methodLink R_X 61 y_X_distance ∈ gT := List.mem_filter.mpr ⟨List.mem_append_right _ (List.mem_of_getElem? (i := 130) (by decide +kernel)), by decide +kernel⟩
theorem lm_X_tapeIsWord : Cond.methodLink R_X 64 y_X_tapeIsWord ∈ gT := List.mem_filter.mpr ⟨List.mem_append_right _ (List.mem_of_getElem? (i := 126) (by decide +kernel)), by decide +kernel⟩
theorem lm_X_writeSigns : Cond.methodLink R_X 67 y_X_writeSigns ∈ gT := List.mem_filter.mpr ⟨List.mem_append_right _ (List.mem_of_getElem? (i := 69) (by decide +kernel)), by decide +kernel⟩
theorem lm_X_small : Cond.methodLink R_X 71 y_X_small ∈ gT := List.mem_filter.mpr ⟨List.mem_append_right _ (List.mem_of_getElem? (i := 43) (by decide +kernel)), by decide +kernel⟩
theorem lm_X_writeTerm : Cond.methodLink R_X 75 y_X_writeTerm ∈ gT := List.mem_filter.mpr ⟨List.mem_append_right _ (List.mem_of_getElem? (i := 61) (by decide +kernel)), by decide +kernel⟩
theorem lm_X_endsWithIes : Cond.methodLink R_X 78 y_X_endsWithIes ∈ gT := List.mem_filter.mpr ⟨List.mem_append_right _ (List.mem_of_getElem? (i := 65) (by decide +kernel)), by decide +kernel⟩
theorem lm_X_endsWithLooseS : Cond.methodLink R_X 81 y_X_endsWithLooseS ∈ gT := List.mem_filter.mpr ⟨List.mem_append_right _ (List.mem_of_getElem? (i := 79) (by decide +kernel)), by decide +kernel⟩
theorem lm_X_Math_min : Cond.methodLink R_X 84 Lib.Math.min.name ∈ gT := List.mem_filter.mpr ⟨List.mem_append_right _ (List.mem_of_getElem? (i := 73) (by decide +kernel)), by decide +kernel⟩
theorem lm_X_System_arraycopy : Cond.methodLink R_X 89 arraycopyName ∈ gT := List.mem_filter.mpr ⟨List.mem_append_right _ (List.mem_of_getElem? (i := 76) (by decide +kernel)), by decide +kernel⟩
theorem lm_X_Integer_compare : Cond.methodLink R_X 95 y_Integer_compare ∈ gT := List.mem_filter.mpr ⟨List.mem_append_right _ (List.mem_of_getElem? (i := 107) (by decide +kernel)), by decide +kernel⟩
theorem lm_M_objectInit : Cond.methodLink R_M 1 objectInit ∈ gT := List.mem_filter.mpr ⟨List.mem_append_right _ (List.mem_of_getElem? (i := 147) (by decide +kernel)), by decide +kernel⟩
theorem lm_M_put : Cond.methodLink R_M 30 y_M_put ∈ gT := List.mem_filter.mpr ⟨List.mem_append_right _ (List.mem_of_getElem? (i := 177) (by decide +kernel)), by decide +kernel⟩
theorem lm_M_letter : Cond.methodLink R_M 37 y_M_letter ∈ gT := List.mem_filter.mpr ⟨List.mem_append_right _ (List.mem_of_getElem? (i := 189) (by decide +kernel)), by decide +kernel⟩
theorem lm_M_last : Cond.methodLink R_M 41 y_M_last ∈ gT := List.mem_filter.mpr ⟨List.mem_append_right _ (List.mem_of_getElem? (i := 200) (by decide +kernel)), by decide +kernel⟩
theorem lm_M_run : Cond.methodLink R_M 45 y_M_run ∈ gT := List.mem_filter.mpr ⟨List.mem_append_right _ (List.mem_of_getElem? (i := 192) (by decide +kernel)), by decide +kernel⟩
theorem lm_M_note : Cond.methodLink R_M 51 y_M_note ∈ gT := List.mem_filter.mpr ⟨List.mem_append_right _ (List.mem_of_getElem? (i := 196) (by decide +kernel)), by decide +kernel⟩
theorem lm_M_is : Cond.methodLink R_M 55 y_M_is ∈ gT := List.mem_filter.mpr ⟨List.mem_append_right _ (List.mem_of_getElem? (i := 208) (by decide +kernel)), by decide +kernel⟩
theorem lm_M_order : Cond.methodLink R_M 58 y_M_order ∈ gT := List.mem_filter.mpr ⟨List.mem_append_right _ (List.mem_of_getElem? (i := 216) (by decide +kernel)), by decide +kernel⟩
theorem lm_M_first : Cond.methodLink R_M 62 y_M_first ∈ gT := List.mem_filter.mpr ⟨List.mem_append_right _ (List.mem_of_getElem? (i := 224) (by decide +kernel)), by decide +kernel⟩
theorem lm_M_oneWord : Cond.methodLink R_M 65 y_M_oneWord ∈ gT := List.mem_filter.mpr ⟨List.mem_append_right _ (List.mem_of_getElem? (i := 233) (by decide +kernel)), by decide +kernel⟩
theorem lm_M_distance : Cond.methodLink R_M 69 y_M_distance ∈ gT := List.mem_filter.mpr ⟨List.mem_append_right _ (List.mem_of_getElem? (i := 237) (by decide +kernel)), by decide +kernel⟩
theorem i_clink_X : Cond.classLink "WordTermsLaw" 7 R_X ∈ gT := List.mem_filter.mpr ⟨List.mem_append_right _ (List.mem_of_getElem? (i := 6) (by decide +kernel)), by decide +kernel⟩
theorem lm_L_X_init : Cond.methodLink "WordTermsLaw" 9 y_X_init ∈ gT := List.mem_filter.mpr ⟨List.mem_append_right _ (List.mem_of_getElem? (i := 8) (by decide +kernel)), by decide +kernel⟩
theorem i_clink_M : Cond.classLink "WordTermsLaw" 10 R_M ∈ gT := List.mem_filter.mpr ⟨List.mem_append_right _ (List.mem_of_getElem? (i := 142) (by decide +kernel)), by decide +kernel⟩
theorem lm_L_M_init : Cond.methodLink "WordTermsLaw" 12 y_M_init ∈ gT := List.mem_filter.mpr ⟨List.mem_append_right _ (List.mem_of_getElem? (i := 144) (by decide +kernel)), by decide +kernel⟩
theorem lm_L_X_feed : Cond.methodLink "WordTermsLaw" 13 y_X_feed ∈ gT := List.mem_filter.mpr ⟨List.mem_append_right _ (List.mem_of_getElem? (i := 35) (by decide +kernel)), by decide +kernel⟩
theorem lm_L_M_feed : Cond.methodLink "WordTermsLaw" 17 y_M_feed ∈ gT := List.mem_filter.mpr ⟨List.mem_append_right _ (List.mem_of_getElem? (i := 173) (by decide +kernel)), by decide +kernel⟩
theorem lm_L_X_end : Cond.methodLink "WordTermsLaw" 18 y_X_end ∈ gT := List.mem_filter.mpr ⟨List.mem_append_right _ (List.mem_of_getElem? (i := 46) (by decide +kernel)), by decide +kernel⟩
theorem lm_L_M_end : Cond.methodLink "WordTermsLaw" 22 y_M_end ∈ gT := List.mem_filter.mpr ⟨List.mem_append_right _ (List.mem_of_getElem? (i := 181) (by decide +kernel)), by decide +kernel⟩
theorem lm_L_X_read : Cond.methodLink "WordTermsLaw" 23 y_X_read ∈ gT := List.mem_filter.mpr ⟨List.mem_append_right _ (List.mem_of_getElem? (i := 50) (by decide +kernel)), by decide +kernel⟩
theorem lm_L_M_read : Cond.methodLink "WordTermsLaw" 27 y_M_read ∈ gT := List.mem_filter.mpr ⟨List.mem_append_right _ (List.mem_of_getElem? (i := 185) (by decide +kernel)), by decide +kernel⟩
theorem lm_L_X_sign : Cond.methodLink "WordTermsLaw" 28 y_X_sign ∈ gT := List.mem_filter.mpr ⟨List.mem_append_right _ (List.mem_of_getElem? (i := 83) (by decide +kernel)), by decide +kernel⟩
theorem lm_L_M_sign : Cond.methodLink "WordTermsLaw" 32 y_M_sign ∈ gT := List.mem_filter.mpr ⟨List.mem_append_right _ (List.mem_of_getElem? (i := 204) (by decide +kernel)), by decide +kernel⟩
theorem lm_L_X_different : Cond.methodLink "WordTermsLaw" 33 y_X_different ∈ gT := List.mem_filter.mpr ⟨List.mem_append_right _ (List.mem_of_getElem? (i := 95) (by decide +kernel)), by decide +kernel⟩
theorem lm_L_M_different : Cond.methodLink "WordTermsLaw" 36 y_M_different ∈ gT := List.mem_filter.mpr ⟨List.mem_append_right _ (List.mem_of_getElem? (i := 220) (by decide +kernel)), by decide +kernel⟩
theorem lm_L_X_first : Cond.methodLink "WordTermsLaw" 37 y_X_first ∈ gT := List.mem_filter.mpr ⟨List.mem_append_right _ (List.mem_of_getElem? (i := 110) (by decide +kernel)), by decide +kernel⟩
theorem lm_L_M_first : Cond.methodLink "WordTermsLaw" 40 y_M_first ∈ gT := List.mem_filter.mpr ⟨List.mem_append_right _ (List.mem_of_getElem? (i := 212) (by decide +kernel)), by decide +kernel⟩
theorem lm_L_X_compare : Cond.methodLink "WordTermsLaw" 41 y_X_compare ∈ gT := List.mem_filter.mpr ⟨List.mem_append_right _ (List.mem_of_getElem? (i := 114) (by decide +kernel)), by decide +kernel⟩
theorem lm_L_M_compare : Cond.methodLink "WordTermsLaw" 44 y_M_compare ∈ gT := List.mem_filter.mpr ⟨List.mem_append_right _ (List.mem_of_getElem? (i := 225) (by decide +kernel)), by decide +kernel⟩
theorem lm_L_X_apart : Cond.methodLink "WordTermsLaw" 45 y_X_apart ∈ gT := List.mem_filter.mpr ⟨List.mem_append_right _ (List.mem_of_getElem? (i := 118) (by decide +kernel)), by decide +kernel⟩
theorem lm_L_M_apart : Cond.methodLink "WordTermsLaw" 48 y_M_apart ∈ gT := List.mem_filter.mpr ⟨List.mem_append_right _ (List.mem_of_getElem? (i := 229) (by decide +kernel)), by decide +kernel⟩
theorem lm_L_X_nearest : Cond.methodLink "WordTermsLaw" 49 y_X_nearest ∈ gT := List.mem_filter.mpr ⟨List.mem_append_right _ (List.mem_of_getElem? (i := 134) (by decide +kernel)), by decide +kernel⟩
theorem lm_L_M_nearest : Cond.methodLink "WordTermsLaw" 52 y_M_nearest ∈ gT := List.mem_filter.mpr ⟨List.mem_append_right _ (List.mem_of_getElem? (i := 241) (by decide +kernel)), by decide +kernel⟩
theorem lm_L_X_plain : Cond.methodLink "WordTermsLaw" 53 y_X_plain ∈ gT := List.mem_filter.mpr ⟨List.mem_append_right _ (List.mem_of_getElem? (i := 138) (by decide +kernel)), by decide +kernel⟩
theorem lm_L_M_plain : Cond.methodLink "WordTermsLaw" 56 y_M_plain ∈ gT := List.mem_filter.mpr ⟨List.mem_append_right _ (List.mem_of_getElem? (i := 245) (by decide +kernel)), by decide +kernel⟩
end
