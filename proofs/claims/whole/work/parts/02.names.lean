def R_X : String := "WordTerms"
def F_X : u_T := fun k => match k with
  | 0 => ("WordTerms", "tape", "[B", true)
  | 1 => ("WordTerms", "tapeLength", "I", false)
  | 2 => ("WordTerms", "signs", "[B", true)
  | 3 => ("WordTerms", "lengths", "[I", true)
  | 4 => ("WordTerms", "termCount", "I", false)
  | _ => ("WordTerms", "distances", "[I", true)
def t_X : Nat → FieldType := fun k => match k with
  | 0 => .array .byte
  | 1 => .int
  | 2 => .array .byte
  | 3 => .array .int
  | 4 => .int
  | _ => .array .int
theorem n_X : ∀ a, a < 6 → ∀ b, b < 6 → a ≠ b → (F_X a).2.1 ≠ (F_X b).2.1 := by decide +kernel
theorem t_X_ok : ∀ k, k < 6 → parseFieldDescriptor (F_X k).2.2.1 = some (t_X k) := by decide +kernel
def R_M : String := "WordTermsModel"
def F_M : u_T := fun k => match k with
  | 0 => ("WordTermsModel", "tape", "[B", true)
  | 1 => ("WordTermsModel", "length", "I", false)
  | 2 => ("WordTermsModel", "terms", "[B", true)
  | 3 => ("WordTermsModel", "sizes", "[I", true)
  | 4 => ("WordTermsModel", "count", "I", false)
  | 5 => ("WordTermsModel", "word", "[B", true)
  | 6 => ("WordTermsModel", "wordLength", "I", false)
  | _ => ("WordTermsModel", "table", "[I", true)
def t_M : Nat → FieldType := fun k => match k with
  | 0 => .array .byte
  | 1 => .int
  | 2 => .array .byte
  | 3 => .array .int
  | 4 => .int
  | 5 => .array .byte
  | 6 => .int
  | _ => .array .int
theorem n_M : ∀ a, a < 8 → ∀ b, b < 8 → a ≠ b → (F_M a).2.1 ≠ (F_M b).2.1 := by decide +kernel
theorem t_M_ok : ∀ k, k < 8 → parseFieldDescriptor (F_M k).2.2.1 = some (t_M k) := by decide +kernel
abbrev classes : List vw_C := [(R_X, F_X, 6), (R_M, F_M, 8)]
abbrev b_X_init : ByteArray := prog_1_method_1_code
def y_X_init : MethodName := ⟨R_X, "<init>", "()V"⟩
abbrev b_X_feed : ByteArray := prog_1_method_2_code
def y_X_feed : MethodName := ⟨R_X, "feed", "(IIIII)I"⟩
abbrev b_X_end : ByteArray := prog_1_method_3_code
def y_X_end : MethodName := ⟨R_X, "end", "(I)I"⟩
abbrev b_X_read : ByteArray := prog_1_method_4_code
def y_X_read : MethodName := ⟨R_X, "read", "()I"⟩
abbrev b_X_sign : ByteArray := prog_1_method_5_code
def y_X_sign : MethodName := ⟨R_X, "sign", "(II)I"⟩
abbrev b_X_different : ByteArray := prog_1_method_6_code
def y_X_different : MethodName := ⟨R_X, "different", "()I"⟩
abbrev b_X_first : ByteArray := prog_1_method_7_code
def y_X_first : MethodName := ⟨R_X, "first", "(I)I"⟩
abbrev b_X_compare : ByteArray := prog_1_method_8_code
def y_X_compare : MethodName := ⟨R_X, "compare", "(II)I"⟩
abbrev b_X_apart : ByteArray := prog_1_method_9_code
def y_X_apart : MethodName := ⟨R_X, "apart", "(I)I"⟩
abbrev b_X_nearest : ByteArray := prog_1_method_10_code
def y_X_nearest : MethodName := ⟨R_X, "nearest", "()I"⟩
abbrev b_X_plain : ByteArray := prog_1_method_11_code
def y_X_plain : MethodName := ⟨R_X, "plain", "()I"⟩
abbrev b_X_putFour : ByteArray := prog_1_method_12_code
def y_X_putFour : MethodName := ⟨R_X, "putFour", "(I)V"⟩
abbrev b_X_small : ByteArray := prog_1_method_13_code
def y_X_small : MethodName := ⟨R_X, "small", "(B)B"⟩
abbrev b_X_isSign : ByteArray := prog_1_method_14_code
def y_X_isSign : MethodName := ⟨R_X, "isSign", "(B)Z"⟩
abbrev b_X_tapeIsWord : ByteArray := prog_1_method_15_code
def y_X_tapeIsWord : MethodName := ⟨R_X, "tapeIsWord", "()Z"⟩
abbrev b_X_takeTapeTerm : ByteArray := prog_1_method_16_code
def y_X_takeTapeTerm : MethodName := ⟨R_X, "takeTapeTerm", "()Z"⟩
abbrev b_X_addTerm : ByteArray := prog_1_method_17_code
def y_X_addTerm : MethodName := ⟨R_X, "addTerm", "(II)V"⟩
abbrev b_X_writeTerm : ByteArray := prog_1_method_18_code
def y_X_writeTerm : MethodName := ⟨R_X, "writeTerm", "(III)V"⟩
abbrev b_X_endsWithIes : ByteArray := prog_1_method_19_code
def y_X_endsWithIes : MethodName := ⟨R_X, "endsWithIes", "(I)Z"⟩
abbrev b_X_endsWithLooseS : ByteArray := prog_1_method_20_code
def y_X_endsWithLooseS : MethodName := ⟨R_X, "endsWithLooseS", "(I)Z"⟩
abbrev b_X_writeSigns : ByteArray := prog_1_method_21_code
def y_X_writeSigns : MethodName := ⟨R_X, "writeSigns", "(III)V"⟩
abbrev b_X_hasTerm : ByteArray := prog_1_method_22_code
def y_X_hasTerm : MethodName := ⟨R_X, "hasTerm", "(I)Z"⟩
abbrev b_X_signAt : ByteArray := prog_1_method_23_code
def y_X_signAt : MethodName := ⟨R_X, "signAt", "(II)I"⟩
abbrev b_X_firstSame : ByteArray := prog_1_method_24_code
def y_X_firstSame : MethodName := ⟨R_X, "firstSame", "(I)I"⟩
abbrev b_X_order : ByteArray := prog_1_method_25_code
def y_X_order : MethodName := ⟨R_X, "order", "(II)I"⟩
abbrev b_X_distance : ByteArray := prog_1_method_26_code
def y_X_distance : MethodName := ⟨R_X, "distance", "(II)I"⟩
abbrev b_M_init : ByteArray := prog_3_method_1_code
def y_M_init : MethodName := ⟨R_M, "<init>", "()V"⟩
abbrev b_M_put : ByteArray := prog_3_method_2_code
def y_M_put : MethodName := ⟨R_M, "put", "(I)V"⟩
abbrev b_M_feed : ByteArray := prog_3_method_3_code
def y_M_feed : MethodName := ⟨R_M, "feed", "(IIIII)I"⟩
abbrev b_M_end : ByteArray := prog_3_method_4_code
def y_M_end : MethodName := ⟨R_M, "end", "(I)I"⟩
abbrev b_M_letter : ByteArray := prog_3_method_5_code
def y_M_letter : MethodName := ⟨R_M, "letter", "(I)Z"⟩
abbrev b_M_run : ByteArray := prog_3_method_6_code
def y_M_run : MethodName := ⟨R_M, "run", "(I)I"⟩
abbrev b_M_last : ByteArray := prog_3_method_7_code
def y_M_last : MethodName := ⟨R_M, "last", "(I)I"⟩
abbrev b_M_note : ByteArray := prog_3_method_8_code
def y_M_note : MethodName := ⟨R_M, "note", "(IZ)V"⟩
abbrev b_M_oneWord : ByteArray := prog_3_method_9_code
def y_M_oneWord : MethodName := ⟨R_M, "oneWord", "()Z"⟩
abbrev b_M_read : ByteArray := prog_3_method_10_code
def y_M_read : MethodName := ⟨R_M, "read", "()I"⟩
abbrev b_M_is : ByteArray := prog_3_method_11_code
def y_M_is : MethodName := ⟨R_M, "is", "(I)Z"⟩
abbrev b_M_sign : ByteArray := prog_3_method_12_code
def y_M_sign : MethodName := ⟨R_M, "sign", "(II)I"⟩
abbrev b_M_order : ByteArray := prog_3_method_13_code
def y_M_order : MethodName := ⟨R_M, "order", "(II)I"⟩
abbrev b_M_first : ByteArray := prog_3_method_14_code
def y_M_first : MethodName := ⟨R_M, "first", "(I)I"⟩
abbrev b_M_different : ByteArray := prog_3_method_15_code
def y_M_different : MethodName := ⟨R_M, "different", "()I"⟩
abbrev b_M_compare : ByteArray := prog_3_method_16_code
def y_M_compare : MethodName := ⟨R_M, "compare", "(II)I"⟩
abbrev b_M_distance : ByteArray := prog_3_method_17_code
def y_M_distance : MethodName := ⟨R_M, "distance", "(II)I"⟩
abbrev b_M_apart : ByteArray := prog_3_method_18_code
def y_M_apart : MethodName := ⟨R_M, "apart", "(I)I"⟩
abbrev b_M_nearest : ByteArray := prog_3_method_19_code
def y_M_nearest : MethodName := ⟨R_M, "nearest", "()I"⟩
abbrev b_M_plain : ByteArray := prog_3_method_20_code
def y_M_plain : MethodName := ⟨R_M, "plain", "()I"⟩
abbrev b_Integer_compare : ByteArray := prog_4_method_40_code
def y_Integer_compare : MethodName := ⟨"java/lang/Integer", "compare", "(II)I"⟩
/-! A method's frame in my own words: gC what stays the same through a walk, gH the world now, gMi / gMv a contract over a world 'w u' (u its state), with start, end and call rows. -/
def gT : List Cond := lw_tbl.filter (fun w => k2_isCode w || goodWord w)
theorem lw_good : ∀ w ∈ gT, (w.onTables && w.keeps) = true ∨ ∃ ty, w = .arrayClass ty := by
  intro w hw
  have h1 : (k2_isCode w || goodWord w) = true := (List.mem_filter.mp hw).2
  rw [Bool.or_eq_true] at h1
  rcases h1 with h1 | h1
  · cases w <;> first | (simp [k2_isCode] at h1; done) | exact Or.inl rfl
  · exact good_of_word h1
theorem g_good {ws : List Cond} (h : ∀ w ∈ ws, w ∈ gT) : GoodIn gT ws := fun w hw => ⟨h w hw, lw_good w (h w hw)⟩
def gW (y : MethodName) (cc : ByteArray) (n : Nat) (ret : Option FieldType) : List Cond := .code y cc n ret :: gT
theorem gW_in {y : MethodName} {cc : ByteArray} {n : Nat} {ret : Option FieldType} (h : Cond.code y cc n ret ∈ gT) : ∀ w ∈ gW y cc n ret, w ∈ gT := fun w hw => by
  rcases List.mem_cons.mp hw with h1 | h1
  · rw [h1]; exact h
  · exact h1
/-- what the tables say of an instance method of class C -/
def gY (C : String) (y : MethodName) (cc : ByteArray) (n : Nat) (ret : Option FieldType) (k : Nat) : Prop :=
  Cond.instanceMethod y ∈ gT ∧ Cond.selects C y y ∈ gT ∧ Cond.initialized C ∈ gT ∧ Cond.code y cc n ret ∈ gT ∧ (y.cls = C ∧ y.cls ≠ "java/lang/invoke/MethodHandle" ∧ y.cls ≠ "java/lang/invoke/VarHandle" ∧ (parseMethodDescriptor y.desc).map (fun d => d.parameters.length) = some k)
/-- and of a static one -/
def gYs (y : MethodName) (cc : ByteArray) (n : Nat) (ret : Option FieldType) (k : Nat) : Prop :=
  Cond.static y ∈ gT ∧ Cond.initialized y.cls ∈ gT ∧ Cond.code y cc n ret ∈ gT ∧ (y.cls ≠ "java/lang/invoke/MethodHandle" ∧ y.cls ≠ "java/lang/invoke/VarHandle" ∧ (parseMethodDescriptor y.desc).map (fun d => d.parameters.length) = some k)
/-- a room of depth d -/
def gR (d : Nat) : Room := { frames := d, cells := 0, slots := 0, locals := 32 * d }
def gC (p : Program) (m : MethodId) (c : Code) (cc : ByteArray) (nL : Nat) (s : State) (args : Array Value) (own : String) (meth : Method) (ret : Option FieldType) (D : va_G) (ty : List (ClassId × FieldType)) (A : Nat → Prop) : Prop :=
  CallFix p m c cc nL s args gT own ∧ (meth.sig.returnType = ret ∧ meth.locks = false) ∧ va_K D classes ty s ∧ ∀ q, s.heap.size ≤ q → A q
def gH {S : Type} (D : va_G) (w : S → va_W) (A : Nat → Prop) (H0 : Heap) (u : S) (H : Heap) (locs : List Loc) : Prop := va_P D classes (w u) H ∧ va_D A (w u) ∧ va_S A H0 H locs
def gB {S : Type} (D : va_G) (ty : List (ClassId × FieldType)) (w : S → va_W) (A : Nat → Prop) (u : S) (t : State) : Prop := va_P D classes (w u) t.heap ∧ va_K D classes ty t ∧ va_D A (w u)
def gMi {S : Type} (l : Launch) (y : MethodName) (ws : List Cond) (rm : Room) (D : va_G) (ty : List (ClassId × FieldType)) (w : S → va_W) (as : List Value) (u : S) (post : Int32 → S → Prop) : Prop :=
  ∀ sz : Nat, Met l y ws rm (va_Pc as (fun U => U.heap.size = sz ∧ gB D ty w (fun _ => True) u U)) (va_Qi post (gB D ty w (va_A (w u) sz)) (va_A (w u) sz)) 0 0 (va_A (w u) sz)
def gMv {S : Type} (l : Launch) (y : MethodName) (ws : List Cond) (rm : Room) (D : va_G) (ty : List (ClassId × FieldType)) (w : S → va_W) (as : List Value) (u : S) (post : S → Prop) : Prop :=
  ∀ sz : Nat, Met l y ws rm (va_Pc as (fun U => U.heap.size = sz ∧ gB D ty w (fun _ => True) u U)) (va_Qv post (gB D ty w (va_A (w u) sz)) (va_A (w u) sz)) 0 0 (va_A (w u) sz)
section GRT
variable {S : Type} {p : Program} {l : Launch} {e : Env} {R : Room} {s : State} {m : MethodId} {args : Array Value} {below : List Frame} {meth : Method} {c : Code} {H : Heap} {locs : List Loc} {Q : State → Prop}
variable {cc : ByteArray} {nL pc : Nat} {ls : Array Slot} {own : String} {D : va_G} {ty : List (ClassId × FieldType)} {A : Nat → Prop} {w : S → va_W} {u : S}
theorem g_iret {rt : FieldType} {v : Int32} {post : Int32 → S → Prop} (hC : gC p m c cc nL s args own meth (some rt) D ty A) (hw : gH D w A s.heap u H locs) (hn : narrow rt (.int v) = .int v) (hp : post v u) (hdg : decode cc pc = .ok (.ireturn, 1)) :
    W p l e R s m args below meth c H locs 0 0 (MQ below (va_Qi post (gB D ty w A) A) args s 0 0 A) (F0 m pc ls [.int v]) := by
  obtain ⟨⟨hx, hb, -, -, -⟩, ⟨hr, hlk⟩, hK, -⟩ := hC
  obtain ⟨hP, hD, hS⟩ := hw
  exact W.zret (hlocks := hlk) hx hb hr hn (fun t ht hW => ⟨⟨v, u, rfl, hp, by rw [ht]; exact hP, va_K.moved hW.alike hK, hD⟩, hS.F ht⟩) hS.2.2 hdg
theorem g_vret {post : S → Prop} (hC : gC p m c cc nL s args own meth none D ty A) (hw : gH D w A s.heap u H locs) (hp : post u) (hdg : decode cc pc = .ok (.return_, 1)) :
    W p l e R s m args below meth c H locs 0 0 (MQ below (va_Qv post (gB D ty w A) A) args s 0 0 A) (F0 m pc ls []) := by
  obtain ⟨⟨hx, hb, -, -, -⟩, ⟨hr, hlk⟩, hK, -⟩ := hC
  obtain ⟨hP, hD, hS⟩ := hw
  exact W.vret (hlocks := hlk) hx hb hr (fun t ht hW => ⟨⟨u, rfl, hp, by rw [ht]; exact hP, va_K.moved hW.alike hK, hD⟩, hS.F ht⟩) hS.2.2 hdg
theorem g_top {cells slots : Nat} {x y : Int32} {rest : List Value} (h : x = y) (k : W p l e R s m args below meth c H locs cells slots Q (F0 m pc ls (.int y :: rest))) : W p l e R s m args below meth c H locs cells slots Q (F0 m pc ls (.int x :: rest)) := by
  subst h
  exact k
end GRT
/-- the return row of a walk towards Q -/
def gRi {S : Type} (p : Program) (l : Launch) (e : Env) (R : Room) (s : State) (m : MethodId) (args : Array Value) (below : List Frame) (meth : Method) (c : Code) (cc : ByteArray) (D : va_G) (w : S → va_W) (A : Nat → Prop) (rt : FieldType) (post : Int32 → S → Prop) (Q : State → Prop) : Prop :=
  ∀ (v : Int32) (u : S) (H : Heap) (locs : List Loc) (pc : Nat) (ls : Array Slot), gH D w A s.heap u H locs → narrow rt (.int v) = .int v → post v u → decode cc pc = .ok (.ireturn, 1) → W p l e R s m args below meth c H locs 0 0 Q (F0 m pc ls [.int v])
def gRv {S : Type} (p : Program) (l : Launch) (e : Env) (R : Room) (s : State) (m : MethodId) (args : Array Value) (below : List Frame) (meth : Method) (c : Code) (cc : ByteArray) (D : va_G) (w : S → va_W) (A : Nat → Prop) (post : S → Prop) (Q : State → Prop) : Prop :=
  ∀ (u : S) (H : Heap) (locs : List Loc) (pc : Nat) (ls : Array Slot), gH D w A s.heap u H locs → post u → decode cc pc = .ok (.return_, 1) → W p l e R s m args below meth c H locs 0 0 Q (F0 m pc ls [])
section GST
variable {S : Type} {l : Launch} {y : MethodName} {rm : Room} {D : va_G} {ty : List (ClassId × FieldType)} {w : S → va_W} {as : List Value} {u : S} {cc : ByteArray} {maxL : Nat}
theorem g_starti {rt : FieldType} {post : Int32 → S → Prop} (hy : plainName y.cls = true) (hlen : (lg_sl as).length ≤ maxL)
    (body : ∀ (p : Program) (e : Env) (s : State) (m : MethodId) (args : Array Value) (below : List Frame) (meth : Method) (c : Code) (A : Nat → Prop) (Q : State → Prop) (ls : Array Slot), gC p m c cc maxL s args y.cls meth (some rt) D ty A → gRi p l e rm s m args below meth c cc D w A rt post Q → lv_has ls maxL (lv_args 0 as) → gH D w A s.heap u s.heap [] → W p l e rm s m args below meth c s.heap [] 0 0 Q (F0 m 0 ls [])) : gMi l y (gW y cc maxL (some rt)) rm D ty w as u post := by
  intro sz
  refine Met.ofW (cc := cc) (maxL := maxL) (ret := some rt) hy rfl ?_
  intro p e s m args below meth c s₁ B hml hv
  obtain ⟨rfl, hsz, hP, hK, hD0⟩ := hv
  subst hsz
  have hl := lv_entry as (n := maxL) hlen
  have hts := atoms_spec (ws := gW y cc maxL (some rt)) B.pre
  rw [lg_entry_eq]
  have hC : gC p m c cc maxL s as.toArray y.cls meth (some rt) D ty (va_A (w u) s.heap.size) := ⟨⟨B.exec, B.bytes, hml, findClass_of_methodNamed B.named, fun w hw => hts w (List.mem_cons_of_mem _ hw)⟩, ⟨B.returns, B.notSynchronized⟩, hK, fun q h => Or.inr h⟩
  exact body p e s m _ below meth c _ _ _ hC (fun v u H locs pc ls hw hn hp hdg => g_iret hC hw hn hp hdg) hl ⟨hP, hD0.self, va_S.rf⟩
theorem g_startv {post : S → Prop} (hy : plainName y.cls = true) (hlen : (lg_sl as).length ≤ maxL)
    (body : ∀ (p : Program) (e : Env) (s : State) (m : MethodId) (args : Array Value) (below : List Frame) (meth : Method) (c : Code) (A : Nat → Prop) (Q : State → Prop) (ls : Array Slot), gC p m c cc maxL s args y.cls meth none D ty A → gRv p l e rm s m args below meth c cc D w A post Q → lv_has ls maxL (lv_args 0 as) → gH D w A s.heap u s.heap [] → W p l e rm s m args below meth c s.heap [] 0 0 Q (F0 m 0 ls [])) : gMv l y (gW y cc maxL none) rm D ty w as u post := by
  intro sz
  refine Met.ofW (cc := cc) (maxL := maxL) (ret := none) hy rfl ?_
  intro p e s m args below meth c s₁ B hml hv
  obtain ⟨rfl, hsz, hP, hK, hD0⟩ := hv
  subst hsz
  have hl := lv_entry as (n := maxL) hlen
  have hts := atoms_spec (ws := gW y cc maxL none) B.pre
  rw [lg_entry_eq]
  have hC : gC p m c cc maxL s as.toArray y.cls meth none D ty (va_A (w u) s.heap.size) := ⟨⟨B.exec, B.bytes, hml, findClass_of_methodNamed B.named, fun w hw => hts w (List.mem_cons_of_mem _ hw)⟩, ⟨B.returns, B.notSynchronized⟩, hK, fun q h => Or.inr h⟩
  exact body p e s m _ below meth c _ _ _ hC (fun u H locs pc ls hw hp hdg => g_vret hC hw hp hdg) hl ⟨hP, hD0.self, va_S.rf⟩
end GST
section GNC
variable {p : Program} {l : Launch} {e : Env} {R : Room} {s : State} {m : MethodId} {args : Array Value} {below : List Frame} {meth : Method} {c : Code} {H : Heap} {locs : List Loc} {cells slots : Nat} {Q : State → Prop}
variable {cc : ByteArray} {pc : Nat} {ls : Array Slot} {rest : List Value}
theorem nc_eq (hexec : p.tables.exec = Jvm.exec) (hb : c.code = cc) {a b : Nat} {off : Int} {tgt : Nat} (hdg : decode cc pc = .ok (.if_icmp .eq off, 3)) (ht : (pc : Int) + off = (tgt : Int)) (ha : a < 2 ^ 31) (hb2 : b < 2 ^ 31)
    (kt : a = b → W p l e R s m args below meth c H locs cells slots Q (F0 m tgt ls rest)) (kf : a ≠ b → W p l e R s m args below meth c H locs cells slots Q (F0 m (pc + 3) ls rest)) : W p l e R s m args below meth c H locs cells slots Q (F0 m pc ls (.int (nI b) :: .int (nI a) :: rest)) :=
  lv_icmp_eq hexec hb hdg ht (fun h => kt ((nI_eq ha hb2).mp h)) (fun h => kf (fun q => h ((nI_eq ha hb2).mpr q)))
theorem nc_ne (hexec : p.tables.exec = Jvm.exec) (hb : c.code = cc) {a b : Nat} {off : Int} {tgt : Nat} (hdg : decode cc pc = .ok (.if_icmp .ne off, 3)) (ht : (pc : Int) + off = (tgt : Int)) (ha : a < 2 ^ 31) (hb2 : b < 2 ^ 31)
    (kt : a ≠ b → W p l e R s m args below meth c H locs cells slots Q (F0 m tgt ls rest)) (kf : a = b → W p l e R s m args below meth c H locs cells slots Q (F0 m (pc + 3) ls rest)) : W p l e R s m args below meth c H locs cells slots Q (F0 m pc ls (.int (nI b) :: .int (nI a) :: rest)) :=
  lv_icmp_ne hexec hb hdg ht (fun h => kt (fun q => h ((nI_eq ha hb2).mpr q))) (fun h => kf ((nI_eq ha hb2).mp h))
theorem nc_lt (hexec : p.tables.exec = Jvm.exec) (hb : c.code = cc) {a b : Nat} {off : Int} {tgt : Nat} (hdg : decode cc pc = .ok (.if_icmp .lt off, 3)) (ht : (pc : Int) + off = (tgt : Int)) (ha : a < 2 ^ 31) (hb2 : b < 2 ^ 31)
    (kt : a < b → W p l e R s m args below meth c H locs cells slots Q (F0 m tgt ls rest)) (kf : b ≤ a → W p l e R s m args below meth c H locs cells slots Q (F0 m (pc + 3) ls rest)) : W p l e R s m args below meth c H locs cells slots Q (F0 m pc ls (.int (nI b) :: .int (nI a) :: rest)) :=
  lv_icmp_lt hexec hb hdg ht (fun h => kt ((nI_ltI ha hb2).mp h)) (fun h => kf (Nat.not_lt.mp (fun q => h ((nI_ltI ha hb2).mpr q))))
theorem nc_ge (hexec : p.tables.exec = Jvm.exec) (hb : c.code = cc) {a b : Nat} {off : Int} {tgt : Nat} (hdg : decode cc pc = .ok (.if_icmp .ge off, 3)) (ht : (pc : Int) + off = (tgt : Int)) (ha : a < 2 ^ 31) (hb2 : b < 2 ^ 31)
    (kt : b ≤ a → W p l e R s m args below meth c H locs cells slots Q (F0 m tgt ls rest)) (kf : a < b → W p l e R s m args below meth c H locs cells slots Q (F0 m (pc + 3) ls rest)) : W p l e R s m args below meth c H locs cells slots Q (F0 m pc ls (.int (nI b) :: .int (nI a) :: rest)) :=
  lv_icmp_ge hexec hb hdg ht (fun h => kt ((nI_leI hb2 ha).mp h)) (fun h => kf (Nat.not_le.mp (fun q => h ((nI_leI hb2 ha).mpr q))))
theorem nc_gt (hexec : p.tables.exec = Jvm.exec) (hb : c.code = cc) {a b : Nat} {off : Int} {tgt : Nat} (hdg : decode cc pc = .ok (.if_icmp .gt off, 3)) (ht : (pc : Int) + off = (tgt : Int)) (ha : a < 2 ^ 31) (hb2 : b < 2 ^ 31)
    (kt : b < a → W p l e R s m args below meth c H locs cells slots Q (F0 m tgt ls rest)) (kf : a ≤ b → W p l e R s m args below meth c H locs cells slots Q (F0 m (pc + 3) ls rest)) : W p l e R s m args below meth c H locs cells slots Q (F0 m pc ls (.int (nI b) :: .int (nI a) :: rest)) :=
  lv_icmp_gt hexec hb hdg ht (fun h => kt ((nI_ltI hb2 ha).mp h)) (fun h => kf (Nat.not_lt.mp (fun q => h ((nI_ltI hb2 ha).mpr q))))
theorem nc_le (hexec : p.tables.exec = Jvm.exec) (hb : c.code = cc) {a b : Nat} {off : Int} {tgt : Nat} (hdg : decode cc pc = .ok (.if_icmp .le off, 3)) (ht : (pc : Int) + off = (tgt : Int)) (ha : a < 2 ^ 31) (hb2 : b < 2 ^ 31)
    (kt : a ≤ b → W p l e R s m args below meth c H locs cells slots Q (F0 m tgt ls rest)) (kf : b < a → W p l e R s m args below meth c H locs cells slots Q (F0 m (pc + 3) ls rest)) : W p l e R s m args below meth c H locs cells slots Q (F0 m pc ls (.int (nI b) :: .int (nI a) :: rest)) :=
  lv_icmp_le hexec hb hdg ht (fun h => kt ((nI_leI ha hb2).mp h)) (fun h => kf (Nat.not_le.mp (fun q => h ((nI_leI ha hb2).mpr q))))
end GNC
theorem nI_i1 (a : Nat) : nI a + Int32.ofInt 1 = nI (a + 1) := by
  rw [show Int32.ofInt 1 = 1 by decide]
  exact nI_1 a
theorem nI_i6 (a : Nat) : nI a + Int32.ofInt 6 = nI (a + 6) := by
  rw [show Int32.ofInt 6 = nI 6 by decide]
  exact nI_add a 6
theorem n_m1 {a : Nat} (h : 1 ≤ a) : nI a + Int32.ofInt (-1) = nI (a - 1) := by
  rw [show Int32.ofInt (-1) = -1 by decide]
  exact sb_m1 h
theorem n_m2 {a : Nat} (h : 2 ≤ a) : nI a + Int32.ofInt (-2) = nI (a - 2) := by
  obtain ⟨b, rfl⟩ : ∃ b, a = b + 1 + 1 := ⟨a - 2, by omega⟩
  have e : Int32.ofInt (-2) = -1 + -1 := by decide
  rw [e, ← Int32.add_assoc, pk_m1, pk_m1]
  rfl
section GCL
variable {S : Type} {p : Program} {l : Launch} {e : Env} {R : Room} {s : State} {m : MethodId} {args : Array Value} {below : List Frame} {meth : Method} {c : Code} {H : Heap} {locs : List Loc} {Q : State → Prop}
variable {cc : ByteArray} {nL pc : Nat} {ls : Array Slot} {own : String} {D : va_G} {ty : List (ClassId × FieldType)} {A : Nat → Prop} {w : S → va_W} {u : S} {ret : Option FieldType}
variable {y : MethodName} {bytes : ByteArray} {maxL index n : Nat} {rt : Option FieldType} {rm : Room} {C : String} {as rest : List Value} {h : Nat}
theorem g_cwV (hts : ∀ w ∈ gT, w.before args s = true) (h1 : Cond.methodLink own index y ∈ gT) (hY : gY C y bytes maxL rt n) {mc ms : Nat} (hrc : rm.cells = mc) (hrs : rm.slots = ms) (hR : rm.frames + 1 ≤ R.frames ∧ 8 + (maxL + 11) + rm.locals ≤ R.locals) : CallW R s args own C index y bytes maxL rt (gW y bytes maxL rt) rm mc ms n := by
  obtain ⟨h2, h3, h4, h5, hd⟩ := hY
  refine cwV n hts (g_good ?_) rfl hrc hrs hd hR
  intro w hw
  rcases List.mem_append.mp hw with hw | hw
  · rcases List.mem_cons.mp hw with h | hw
    · rw [h]; exact h1
    rcases List.mem_cons.mp hw with h | hw
    · rw [h]; exact h2
    rcases List.mem_cons.mp hw with h | hw
    · rw [h]; exact h3
    · rw [List.mem_singleton.mp hw]; exact h4
  · exact gW_in h5 w hw
theorem g_cwS (hts : ∀ w ∈ gT, w.before args s = true) (h1 : Cond.methodLink own index y ∈ gT) (hY : gYs y bytes maxL rt n) {mc ms : Nat} (hrc : rm.cells = mc) (hrs : rm.slots = ms) (hR : rm.frames + 1 ≤ R.frames ∧ 8 + (maxL + 11) + rm.locals ≤ R.locals) : CallB R s args own index y bytes maxL rt (gW y bytes maxL rt) rm mc ms n ∧ (Cond.static y).before args s = true := by
  obtain ⟨h2, h4, h5, hd⟩ := hY
  exact ⟨callB_of n hts (g_good (gW_in h5)) rfl hrc hrs (hts _ h4) (hts _ h1) hd hR, hts _ h2⟩
theorem g_free (hK : ∀ q, s.heap.size ≤ q → A q) (hD : va_D A (w u)) (hS : va_S A s.heap H locs) : ∀ q, va_A (w u) H.size q → A q := by
  intro q h
  rcases h with ⟨k, e, h⟩ | h
  · exact hD.2 k _ h
  · exact hK q (Nat.le_trans hS.1 h)
/-- a call of an instance method over the same world -/
theorem g_calli {post : Int32 → S → Prop} {ci : Nat} {fs : List Value} {T : u_T} {N : Nat} (hC : gC p m c cc nL s args own meth ret D ty A) (hw : gH D w A s.heap u H locs) (hM : gMi l y (gW y bytes maxL rt) rm D ty w (.ref h :: as) u post) (h1 : Cond.methodLink own index y ∈ gT) (hY : gY C y bytes maxL rt as.length) (hc : classes[ci]? = some (C, T, N)) (he : (w u)[0]? = some (h, .inr (ci, fs))) (hrc : rm.cells = 0) (hrs : rm.slots = 0) (hR : rm.frames + 1 ≤ R.frames ∧ 8 + (maxL + 11) + rm.locals ≤ R.locals) (hls : ls.size = nL) (hrm : (rest.map fun v => v.category).sum ≤ 8) (hdg : decode cc pc = .ok (.invokevirtual index, 3))
    (kk : ∀ (r : Int32) (u1 : S) (H1 : Heap) (locs1 : List Loc), post r u1 → gH D w A s.heap u1 H1 locs1 → W p l e R s m args below meth c H1 locs1 0 0 Q (F0 m (pc + 3) ls (.int r :: rest))) : W p l e R s m args below meth c H locs 0 0 Q (F0 m pc ls (as.reverse ++ .ref h :: rest)) := by
  obtain ⟨hF, -, hK, hA⟩ := hC
  obtain ⟨hP, hD, hS⟩ := hw
  have hFc := g_free hA hD hS
  refine va_calli (va_runV (As := as) (rest := rest) hF (hM H.size) (g_cwV hF.2.2.2.2 h1 hY hrc hrs hR) ⟨fun a U g mk q => ?_, va_recv hK hP hc he, fun U hU hW => ?_⟩ rfl rfl hls rfl (lv_room hrm) hdg ⟨Nat.zero_le _, Nat.zero_le _⟩) hS (fun q _ h => hFc q h) hFc (fun r u1 t H1 locs1 ht hvm hp hB hz1 hk1 hS1 => ?_)
  · obtain ⟨q0, q1, qP, qK, qD⟩ := q
    exact ⟨q0, q1, qP, va_K.moved (u := U) (U := U.calling g mk a) (Vm.Alike.refl U.vm) qK, qD⟩
  · exact ⟨rfl, by rw [hU], by rw [hU]; exact hP, va_K.moved hW.alike hK, hD.weaken (fun _ _ _ _ => trivial)⟩
  · obtain ⟨hP1, hK1, hD1⟩ := hB
    rw [ht] at hP1
    exact kk r u1 H1 locs1 hp ⟨hP1, hD1.weaken (fun k q _ h => hFc q.1 h), hS1⟩
theorem g_callv {post : S → Prop} {ci : Nat} {fs : List Value} {T : u_T} {N : Nat} (hC : gC p m c cc nL s args own meth ret D ty A) (hw : gH D w A s.heap u H locs) (hM : gMv l y (gW y bytes maxL rt) rm D ty w (.ref h :: as) u post) (h1 : Cond.methodLink own index y ∈ gT) (hY : gY C y bytes maxL rt as.length) (hc : classes[ci]? = some (C, T, N)) (he : (w u)[0]? = some (h, .inr (ci, fs))) (hrc : rm.cells = 0) (hrs : rm.slots = 0) (hR : rm.frames + 1 ≤ R.frames ∧ 8 + (maxL + 11) + rm.locals ≤ R.locals) (hls : ls.size = nL) (hrm : (rest.map fun v => v.category).sum ≤ 8) (hdg : decode cc pc = .ok (.invokevirtual index, 3))
    (kk : ∀ (u1 : S) (H1 : Heap) (locs1 : List Loc), post u1 → gH D w A s.heap u1 H1 locs1 → W p l e R s m args below meth c H1 locs1 0 0 Q (F0 m (pc + 3) ls rest)) : W p l e R s m args below meth c H locs 0 0 Q (F0 m pc ls (as.reverse ++ .ref h :: rest)) := by
  obtain ⟨hF, -, hK, hA⟩ := hC
  obtain ⟨hP, hD, hS⟩ := hw
  have hFc := g_free hA hD hS
  refine va_callv (va_runV (As := as) (rest := rest) hF (hM H.size) (g_cwV hF.2.2.2.2 h1 hY hrc hrs hR) ⟨fun a U g mk q => ?_, va_recv hK hP hc he, fun U hU hW => ?_⟩ rfl rfl hls rfl (lv_room hrm) hdg ⟨Nat.zero_le _, Nat.zero_le _⟩) hS (fun q _ h => hFc q h) hFc (fun u1 t H1 locs1 ht hvm hp hB hz1 hk1 hS1 => ?_)
  · obtain ⟨q0, q1, qP, qK, qD⟩ := q
    exact ⟨q0, q1, qP, va_K.moved (u := U) (U := U.calling g mk a) (Vm.Alike.refl U.vm) qK, qD⟩
  · exact ⟨rfl, by rw [hU], by rw [hU]; exact hP, va_K.moved hW.alike hK, hD.weaken (fun _ _ _ _ => trivial)⟩
  · obtain ⟨hP1, hK1, hD1⟩ := hB
    rw [ht] at hP1
    exact kk u1 H1 locs1 hp ⟨hP1, hD1.weaken (fun k q _ h => hFc q.1 h), hS1⟩
/-- a static method that touches nothing: its contract is over the empty world -/
abbrev gMs (l : Launch) (y : MethodName) (ws : List Cond) (rm : Room) (D : va_G) (as : List Value) (r : Int32) : Prop := gMi (S := Unit) l y ws rm D [] (fun _ => []) as () (fun r1 _ => r1 = r)
theorem g_calls {r : Int32} (hC : gC p m c cc nL s args own meth ret D ty A) (hw : gH D w A s.heap u H locs) (hM : gMs l y (gW y bytes maxL rt) rm D as r) (h1 : Cond.methodLink own index y ∈ gT) (hY : gYs y bytes maxL rt as.length) (hrc : rm.cells = 0) (hrs : rm.slots = 0) (hR : rm.frames + 1 ≤ R.frames ∧ 8 + (maxL + 11) + rm.locals ≤ R.locals) (hls : ls.size = nL) (hrm : (rest.map fun v => v.category).sum ≤ 8) (hdg : decode cc pc = .ok (.invokestatic index, 3))
    (kk : ∀ (H1 : Heap) (locs1 : List Loc), gH D w A s.heap u H1 locs1 → W p l e R s m args below meth c H1 locs1 0 0 Q (F0 m (pc + 3) ls (.int r :: rest))) : W p l e R s m args below meth c H locs 0 0 Q (F0 m pc ls (as.reverse ++ rest)) := by
  obtain ⟨hF, -, hK, hA⟩ := hC
  obtain ⟨hP, hD, hS⟩ := hw
  have hFc : ∀ q, va_A [] H.size q → A q := by
    intro q h
    rcases h with ⟨k, e, h⟩ | h
    · simp at h
    · exact hA q (Nat.le_trans hS.1 h)
  refine va_calli (va_runS (As := as) (rest := rest) hF (hM H.size) (g_cwS hF.2.2.2.2 h1 hY hrc hrs hR) ⟨fun a U g mk q => ?_, fun U hU hW => ?_⟩ rfl rfl hls rfl (lv_room hrm) hdg ⟨Nat.zero_le _, Nat.zero_le _⟩) hS (fun q _ h => hFc q h) hFc (fun r1 u1 t H1 locs1 ht hvm hp hB hz1 hk1 hS1 => ?_)
  · obtain ⟨q0, q1, qP, qK, qD⟩ := q
    exact ⟨q0, q1, qP, va_K.moved (u := U) (U := U.calling g mk a) (Vm.Alike.refl U.vm) qK, qD⟩
  · exact ⟨rfl, by rw [hU], fun k q h => by simp at h, va_K.moved hW.alike (hK.sub (tys' := []) [] rfl), fun i j p q h => by simp at h, fun k q h => by simp at h⟩
  · have hp : r1 = r := hp
    subst hp
    refine kk H1 locs1 ⟨hP.kept (fun k q hq => hk1 q.1 (hP k q hq).lt (fun h => ?_)), hD, hS1⟩
    rcases h with ⟨k2, e, h⟩ | h
    · simp at h
    · exact absurd (hP k q hq).lt (Nat.not_lt.mpr h)
end GCL
