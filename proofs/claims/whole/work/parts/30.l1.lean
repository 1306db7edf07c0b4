/-! THE CLAIM OUT OF ONE WALK OF THE LAW'S BODY. Your part is whole_start (and what it stands on); all else here is the same for every law, but numbers. -/
def R_law : String := "WordTermsLaw"
def lw_P (b : Addr) (xs : List Int32) (args : Array Value) (s : State) : Prop := args = #[.ref b] ∧ s.IntsAt b xs ∧ xs.length ≤ 3072 ∧ (Jvm.Cond.and given_1 narrow_1).before args s = true
def lw_Q (_ : Array Value) (s : State) (o : Outcome) (t : State) : Prop := o = .returned (some (.int 1)) ∧ Framed s o t [] 11 9114
def lw_Z (below : List Frame) (a : Array Value) (s : State) : State → Prop := fun t => ∃ o, t.status = .running ∧ Ended t below o ∧ lw_Q a s o t
/-- the law's own end, with 1 on the stack, nothing written that was there before, its room as the claim has it -/
theorem lw_ret {p : Program} {l : Launch} {e : Env} {s : State} {m : MethodId} {below : List Frame} {meth : Method} {c : Code} {b : Nat} (hx : p.tables.exec = Jvm.exec) (hb : c.code = code) (hr : meth.sig.returnType = ret) (hlocks : meth.locks = false) {pc : Nat} {H : Heap} {ls : Array Slot} (hdg : decode code pc = .ok (.ireturn, 1)) : W p l e room_1 s m #[Value.ref b] below meth c H [] 11 9114 (lw_Z below #[Value.ref b] s) (F0 m pc ls [.int 1]) := by
  intro T hT X
  obtain ⟨fs, hret, hrun, hended, hW, hframe⟩ := X.leave (v := some (.int 1)) (hlocks := hlocks) (fun h => by rw [hr] at h; cases h)
  have hmeth' : T.vm.method? m = some meth := X.method'
  refine ⟨T.setFrames fs, ?_, .returned (some (.int 1)), hrun, hended, rfl, ⟨_, rfl⟩, hW, hframe⟩
  jvm_step X.here [X.here.top, hx, hb, hdg, hmeth', hr, ret, narrow_b1]
  (try refine ⟨rfl, ?_⟩); (try refine ⟨rfl, ?_⟩)
  first | (intro acts; rw [hret _ acts rfl rfl rfl]) | rw [hret _ _ rfl rfl rfl]
  exact Steps.refl _
/-- what holds at the law's entry: the machine, the code, the tables' words (any of lw_tbl by 'hts w (by decide +kernel)'), the script of L ints xs at the cell b, what the Statement gives of the start (any of its parts by flat_of_before) -/
def lw_At (p : Program) (s : State) (m : MethodId) (meth : Method) (c : Code) (b L : Nat) (xs : Nat → Int32) : Prop :=
  p.tables.exec = Jvm.exec ∧ c.code = code ∧ meth.sig.returnType = ret ∧ c.maxLocals = 4 ∧ s.vm.findClass R_law = some m.cls ∧ (∀ w ∈ lw_tbl, w.before #[Value.ref b] s = true) ∧ va_X b L xs s s.heap ∧ b < s.heap.size ∧ meth.locks = false ∧ (Jvm.Cond.and given_1 narrow_1).before #[Value.ref b] s = true
set_option maxHeartbeats 4000000 in
set_option maxRecDepth 100000 in
theorem c_X_init (l : Launch) (D : va_G) (h0 sz : Nat) : Met l y_X_init (gW y_X_init b_X_init 1 none) ({ frames := 1, cells := 4, slots := 4100, locals := 32 }) (va_Pc [.ref h0] (fun U => U.heap.size = sz ∧ va_P D classes [(h0, .inr (0, [.null, .int 0, .null, .null, .int 0, .null]))] U.heap ∧ va_K D classes [] U ∧ va_D (fun _ => True) [(h0, .inr (0, [.null, .int 0, .null, .null, .int 0, .null]))])) (va_Qv (fun _ : Unit => True) (fun _ t => ∃ (g : Nat → Nat) (k : Nat → ClassId), g 0 = h0 ∧ va_P D classes (xw g k (fun _ => 0, nI 0, fun _ => 0, fun _ => 0, nI 0, fun _ => 0)) t.heap ∧ va_K D classes (xT k) t ∧ va_D (va_A [(h0, .inr (0, [.null, .int 0, .null, .null, .int 0, .null]))] sz) (xw g k (fun _ => 0, nI 0, fun _ => 0, fun _ => 0, nI 0, fun _ => 0))) (va_A [(h0, .inr (0, [.null, .int 0, .null, .null, .int 0, .null]))] sz)) 4 4100 (va_A [(h0, .inr (0, [.null, .int 0, .null, .null, .int 0, .null]))] sz) := by
  refine Met.ofW (cc := b_X_init) (maxL := 1) (ret := none) (by decide) rfl ?_
  intro p ev s m args below meth cd s₁ B hml hv
  obtain ⟨rfl, hsz, hP, hK, hD0⟩ := hv
  have hx := B.exec
  have hb := B.bytes
  have hr := B.returns
  have hts0 := atoms_spec (ws := gW y_X_init b_X_init 1 none) B.pre
  have hts : ∀ w ∈ gT, w.before [Value.ref h0].toArray s = true := fun w hw => hts0 w (List.mem_cons_of_mem _ hw)
  have hown : s.vm.findClass R_X = some m.cls := findClass_of_methodNamed B.named
  have hlocks := B.notSynchronized
  have hin : meth.name = "<init>" := (name_of_methodNamed B.named B.method).1
  subst hsz
  have hD := hD0.self (sz := s.heap.size)
  generalize hAe : va_A [(h0, .inr (0, [.null, .int 0, .null, .null, .int 0, .null]))] s.heap.size = A at hD ⊢
  have hA : ∀ q : Nat, s.heap.size ≤ q → A q := fun q h => by rw [← hAe]; exact Or.inr h
  have hS : va_S A s.heap s.heap [] := va_S.rf
  have hP : va_P D classes [(h0, .inr (0, [.null, .int 0, .null, .null, .int 0, .null]))] s.heap := hP
  have hl := lv_entry ([.ref h0]) (n := 1) (Nat.le_of_ble_eq_true rfl)
  rw [lg_entry_eq]
  generalize (lg_sl ([.ref h0]) ++ List.replicate (1 - (lg_sl ([.ref h0])).length) Slot.unset).toArray = ls at hl ⊢
  have hl : lv_has ls 1 [(0, .ref h0)] := hl
  refine lv_aload_n (pc := 0) hx hb d_X_init_0 rfl (lv_at hl 0 rfl) ?_
  refine W.objInit hx hb hown (hts _ lm_X_objectInit) (hts _ i_objectInit_im) (hts _ i_objectInit_code) rfl (by rw [hml]; exact hl.1) rfl d_X_init_1 (Nat.le_of_ble_eq_true rfl) (Nat.le_of_ble_eq_true rfl) ?_
  refine W.eq (g2 := F0 m 4 ls []) rfl ?_
  refine lv_aload_n (pc := 4) hx hb d_X_init_4 rfl (lv_at hl 0 rfl) ?_
  refine lv_sipush (pc := 5) (v := nI 300) hx hb d_X_init_5 (by decide) ?_
  refine va_newa (pc := 8) (atype := .byte) (D := D) (cl := classes) (a0 := (300, .inl (fun _ => 0))) hx hb (hts _ i_arr_byte) rfl hK hP hD hS hA (fun _ => rfl) (by decide) (by decide) (by decide) (by decide) (by decide) d_X_init_8 (fun q8 c8 H hK hP hD hS => ?_)
  have hK : va_K D classes [(c8, .byte)] s := hK
  have hP : va_P D classes [(h0, .inr (0, [.null, .int 0, .null, .null, .int 0, .null])), (q8, .inl (c8, 300, .inl (fun _ => 0)))] H := hP
  have hD : va_D A [(h0, .inr (0, [.null, .int 0, .null, .null, .int 0, .null])), (q8, .inl (c8, 300, .inl (fun _ => 0)))] := hD
  refine va_putF (pc := 10) (D := D) (cl := classes) (ci := 0) (v := .ref q8) (ty := .array .byte) (C := R_X) (T := F_X) (N := 6) hx hb hts hin_X t_X t_X_ok n_X hown hK hP hD hS 0 rfl rfl 0 (by decide) (hts _ lk_X_tape) (fun _ h9 => h9) rfl hin rfl (by decide +kernel) rfl rfl (Nat.le_of_ble_eq_true rfl) d_X_init_10 (fun H locs hP hD hS => ?_)
  have hP : va_P D classes [(h0, .inr (0, [.ref q8, .int 0, .null, .null, .int 0, .null])), (q8, .inl (c8, 300, .inl (fun _ => 0)))] H := hP
  have hD : va_D A [(h0, .inr (0, [.ref q8, .int 0, .null, .null, .int 0, .null])), (q8, .inl (c8, 300, .inl (fun _ => 0)))] := hD
  refine lv_aload_n (pc := 13) hx hb d_X_init_13 rfl (lv_at hl 0 rfl) ?_
  refine lv_iconst (pc := 14) (v := 0) hx hb d_X_init_14 (by decide) ?_
  refine va_put (pc := 15) (D := D) (cl := classes) (ci := 0) (v := .int 0) (ty := .int) (C := R_X) (T := F_X) (N := 6) hx hb hts hin_X t_X t_X_ok n_X hown hK hP hD hS 0 rfl rfl 1 (by decide) (hts _ lk_X_tapeLength) (fun _ h9 => h9) rfl (by decide +kernel) rfl rfl (Nat.le_of_ble_eq_true rfl) d_X_init_15 (fun H locs hP hD hS => ?_)
  have hP : va_P D classes [(h0, .inr (0, [.ref q8, .int 0, .null, .null, .int 0, .null])), (q8, .inl (c8, 300, .inl (fun _ => 0)))] H := hP
  have hD : va_D A [(h0, .inr (0, [.ref q8, .int 0, .null, .null, .int 0, .null])), (q8, .inl (c8, 300, .inl (fun _ => 0)))] := hD
  refine lv_aload_n (pc := 18) hx hb d_X_init_18 rfl (lv_at hl 0 rfl) ?_
  refine lv_sipush (pc := 19) (v := nI 3624) hx hb d_X_init_19 (by decide) ?_
  refine va_newa (pc := 22) (atype := .byte) (D := D) (cl := classes) (a0 := (3624, .inl (fun _ => 0))) hx hb (hts _ i_arr_byte) rfl hK hP hD hS hA (fun _ => rfl) (by decide) (by decide) (by decide) (by decide) (by decide) d_X_init_22 (fun q22 c22 H hK hP hD hS => ?_)
  have hK : va_K D classes [(c8, .byte), (c22, .byte)] s := hK
  have hP : va_P D classes [(h0, .inr (0, [.ref q8, .int 0, .null, .null, .int 0, .null])), (q8, .inl (c8, 300, .inl (fun _ => 0))), (q22, .inl (c22, 3624, .inl (fun _ => 0)))] H := hP
  have hD : va_D A [(h0, .inr (0, [.ref q8, .int 0, .null, .null, .int 0, .null])), (q8, .inl (c8, 300, .inl (fun _ => 0))), (q22, .inl (c22, 3624, .inl (fun _ => 0)))] := hD
  refine va_putF (pc := 24) (D := D) (cl := classes) (ci := 0) (v := .ref q22) (ty := .array .byte) (C := R_X) (T := F_X) (N := 6) hx hb hts hin_X t_X t_X_ok n_X hown hK hP hD hS 0 rfl rfl 2 (by decide) (hts _ lk_X_signs) (fun _ h9 => h9) rfl hin rfl (by decide +kernel) rfl rfl (Nat.le_of_ble_eq_true rfl) d_X_init_24 (fun H locs hP hD hS => ?_)
  have hP : va_P D classes [(h0, .inr (0, [.ref q8, .int 0, .ref q22, .null, .int 0, .null])), (q8, .inl (c8, 300, .inl (fun _ => 0))), (q22, .inl (c22, 3624, .inl (fun _ => 0)))] H := hP
  have hD : va_D A [(h0, .inr (0, [.ref q8, .int 0, .ref q22, .null, .int 0, .null])), (q8, .inl (c8, 300, .inl (fun _ => 0))), (q22, .inl (c22, 3624, .inl (fun _ => 0)))] := hD
  refine lv_aload_n (pc := 27) hx hb d_X_init_27 rfl (lv_at hl 0 rfl) ?_
  refine lv_sipush (pc := 28) (v := nI 151) hx hb d_X_init_28 (by decide) ?_
  refine va_newa (pc := 31) (atype := .int) (D := D) (cl := classes) (a0 := (151, .inl (fun _ => 0))) hx hb (hts _ i_arr_int) rfl hK hP hD hS hA (fun _ => rfl) (by decide) (by decide) (by decide) (by decide) (by decide) d_X_init_31 (fun q31 c31 H hK hP hD hS => ?_)
  have hK : va_K D classes [(c8, .byte), (c22, .byte), (c31, .int)] s := hK
  have hP : va_P D classes [(h0, .inr (0, [.ref q8, .int 0, .ref q22, .null, .int 0, .null])), (q8, .inl (c8, 300, .inl (fun _ => 0))), (q22, .inl (c22, 3624, .inl (fun _ => 0))), (q31, .inl (c31, 151, .inl (fun _ => 0)))] H := hP
  have hD : va_D A [(h0, .inr (0, [.ref q8, .int 0, .ref q22, .null, .int 0, .null])), (q8, .inl (c8, 300, .inl (fun _ => 0))), (q22, .inl (c22, 3624, .inl (fun _ => 0))), (q31, .inl (c31, 151, .inl (fun _ => 0)))] := hD
  refine va_putF (pc := 33) (D := D) (cl := classes) (ci := 0) (v := .ref q31) (ty := .array .int) (C := R_X) (T := F_X) (N := 6) hx hb hts hin_X t_X t_X_ok n_X hown hK hP hD hS 0 rfl rfl 3 (by decide) (hts _ lk_X_lengths) (fun _ h9 => h9) rfl hin rfl (by decide +kernel) rfl rfl (Nat.le_of_ble_eq_true rfl) d_X_init_33 (fun H locs hP hD hS => ?_)
  have hP : va_P D classes [(h0, .inr (0, [.ref q8, .int 0, .ref q22, .ref q31, .int 0, .null])), (q8, .inl (c8, 300, .inl (fun _ => 0))), (q22, .inl (c22, 3624, .inl (fun _ => 0))), (q31, .inl (c31, 151, .inl (fun _ => 0)))] H := hP
  have hD : va_D A [(h0, .inr (0, [.ref q8, .int 0, .ref q22, .ref q31, .int 0, .null])), (q8, .inl (c8, 300, .inl (fun _ => 0))), (q22, .inl (c22, 3624, .inl (fun _ => 0))), (q31, .inl (c31, 151, .inl (fun _ => 0)))] := hD
  refine lv_aload_n (pc := 36) hx hb d_X_init_36 rfl (lv_at hl 0 rfl) ?_
  refine lv_iconst (pc := 37) (v := 0) hx hb d_X_init_37 (by decide) ?_
  refine va_put (pc := 38) (D := D) (cl := classes) (ci := 0) (v := .int 0) (ty := .int) (C := R_X) (T := F_X) (N := 6) hx hb hts hin_X t_X t_X_ok n_X hown hK hP hD hS 0 rfl rfl 4 (by decide) (hts _ lk_X_termCount) (fun _ h9 => h9) rfl (by decide +kernel) rfl rfl (Nat.le_of_ble_eq_true rfl) d_X_init_38 (fun H locs hP hD hS => ?_)
  have hP : va_P D classes [(h0, .inr (0, [.ref q8, .int 0, .ref q22, .ref q31, .int 0, .null])), (q8, .inl (c8, 300, .inl (fun _ => 0))), (q22, .inl (c22, 3624, .inl (fun _ => 0))), (q31, .inl (c31, 151, .inl (fun _ => 0)))] H := hP
  have hD : va_D A [(h0, .inr (0, [.ref q8, .int 0, .ref q22, .ref q31, .int 0, .null])), (q8, .inl (c8, 300, .inl (fun _ => 0))), (q22, .inl (c22, 3624, .inl (fun _ => 0))), (q31, .inl (c31, 151, .inl (fun _ => 0)))] := hD
  refine lv_aload_n (pc := 41) hx hb d_X_init_41 rfl (lv_at hl 0 rfl) ?_
  refine lv_bipush (pc := 42) (v := nI 25) hx hb d_X_init_42 (by decide) ?_
  refine va_newa (pc := 44) (atype := .int) (D := D) (cl := classes) (a0 := (25, .inl (fun _ => 0))) hx hb (hts _ i_arr_int) rfl hK hP hD hS hA (fun _ => rfl) (by decide) (by decide) (by decide) (by decide) (by decide) d_X_init_44 (fun q44 c44 H hK hP hD hS => ?_)
  have hK : va_K D classes [(c8, .byte), (c22, .byte), (c31, .int), (c44, .int)] s := hK
  have hP : va_P D classes [(h0, .inr (0, [.ref q8, .int 0, .ref q22, .ref q31, .int 0, .null])), (q8, .inl (c8, 300, .inl (fun _ => 0))), (q22, .inl (c22, 3624, .inl (fun _ => 0))), (q31, .inl (c31, 151, .inl (fun _ => 0))), (q44, .inl (c44, 25, .inl (fun _ => 0)))] H := hP
  have hD : va_D A [(h0, .inr (0, [.ref q8, .int 0, .ref q22, .ref q31, .int 0, .null])), (q8, .inl (c8, 300, .inl (fun _ => 0))), (q22, .inl (c22, 3624, .inl (fun _ => 0))), (q31, .inl (c31, 151, .inl (fun _ => 0))), (q44, .inl (c44, 25, .inl (fun _ => 0)))] := hD
  refine va_putF (pc := 46) (D := D) (cl := classes) (ci := 0) (v := .ref q44) (ty := .array .int) (C := R_X) (T := F_X) (N := 6) hx hb hts hin_X t_X t_X_ok n_X hown hK hP hD hS 0 rfl rfl 5 (by decide) (hts _ lk_X_distances) (fun _ h9 => h9) rfl hin rfl (by decide +kernel) rfl rfl (Nat.le_of_ble_eq_true rfl) d_X_init_46 (fun H locs hP hD hS => ?_)
  have hP : va_P D classes [(h0, .inr (0, [.ref q8, .int 0, .ref q22, .ref q31, .int 0, .ref q44])), (q8, .inl (c8, 300, .inl (fun _ => 0))), (q22, .inl (c22, 3624, .inl (fun _ => 0))), (q31, .inl (c31, 151, .inl (fun _ => 0))), (q44, .inl (c44, 25, .inl (fun _ => 0)))] H := hP
  have hD : va_D A [(h0, .inr (0, [.ref q8, .int 0, .ref q22, .ref q31, .int 0, .ref q44])), (q8, .inl (c8, 300, .inl (fun _ => 0))), (q22, .inl (c22, 3624, .inl (fun _ => 0))), (q31, .inl (c31, 151, .inl (fun _ => 0))), (q44, .inl (c44, 25, .inl (fun _ => 0)))] := hD
  refine W.widen (k := 4) (n := 4100) (by decide) (by decide) ?_
  exact W.vret hx hb hr (fun t ht hW => ⟨⟨(), rfl, trivial, fun i => [h0, q8, q22, q31, q44].getD i 0, fun i => [c8, c8, c22, c31, c44].getD i c8, rfl, by rw [ht]; exact hP, va_K.moved hW.alike hK, hD⟩, hS.F ht⟩) hS.2.2 d_X_init_49
set_option maxHeartbeats 4000000 in
set_option maxRecDepth 100000 in
theorem c_M_init (l : Launch) (D : va_G) (h0 sz : Nat) : Met l y_M_init (gW y_M_init b_M_init 1 none) ({ frames := 1, cells := 5, slots := 5000, locals := 32 }) (va_Pc [.ref h0] (fun U => U.heap.size = sz ∧ va_P D classes [(h0, .inr (1, [.null, .int 0, .null, .null, .int 0, .null, .int 0, .null]))] U.heap ∧ va_K D classes [] U ∧ va_D (fun _ => True) [(h0, .inr (1, [.null, .int 0, .null, .null, .int 0, .null, .int 0, .null]))])) (va_Qv (fun _ : Unit => True) (fun _ t => ∃ (g : Nat → Nat) (k : Nat → ClassId), g 0 = h0 ∧ va_P D classes (mw g k (fun _ => 0, nI 0, fun _ => 0, fun _ => 0, nI 0, fun _ => 0, nI 0, fun _ => 0)) t.heap ∧ va_K D classes (mT k) t ∧ va_D (va_A [(h0, .inr (1, [.null, .int 0, .null, .null, .int 0, .null, .int 0, .null]))] sz) (mw g k (fun _ => 0, nI 0, fun _ => 0, fun _ => 0, nI 0, fun _ => 0, nI 0, fun _ => 0))) (va_A [(h0, .inr (1, [.null, .int 0, .null, .null, .int 0, .null, .int 0, .null]))] sz)) 5 5000 (va_A [(h0, .inr (1, [.null, .int 0, .null, .null, .int 0, .null, .int 0, .null]))] sz) := by
  refine Met.ofW (cc := b_M_init) (maxL := 1) (ret := none) (by decide) rfl ?_
  intro p ev s m args below meth cd s₁ B hml hv
  obtain ⟨rfl, hsz, hP, hK, hD0⟩ := hv
  have hx := B.exec
  have hb := B.bytes
  have hr := B.returns
  have hts0 := atoms_spec (ws := gW y_M_init b_M_init 1 none) B.pre
  have hts : ∀ w ∈ gT, w.before [Value.ref h0].toArray s = true := fun w hw => hts0 w (List.mem_cons_of_mem _ hw)
  have hown : s.vm.findClass R_M = some m.cls := findClass_of_methodNamed B.named
  have hlocks := B.notSynchronized
  have hin : meth.name = "<init>" := (name_of_methodNamed B.named B.method).1
  subst hsz
  have hD := hD0.self (sz := s.heap.size)
  generalize hAe : va_A [(h0, .inr (1, [.null, .int 0, .null, .null, .int 0, .null, .int 0, .null]))] s.heap.size = A at hD ⊢
  have hA : ∀ q : Nat, s.heap.size ≤ q → A q := fun q h => by rw [← hAe]; exact Or.inr h
  have hS : va_S A s.heap s.heap [] := va_S.rf
  have hP : va_P D classes [(h0, .inr (1, [.null, .int 0, .null, .null, .int 0, .null, .int 0, .null]))] s.heap := hP
  have hl := lv_entry ([.ref h0]) (n := 1) (Nat.le_of_ble_eq_true rfl)
  rw [lg_entry_eq]
  generalize (lg_sl ([.ref h0]) ++ List.replicate (1 - (lg_sl ([.ref h0])).length) Slot.unset).toArray = ls at hl ⊢
  have hl : lv_has ls 1 [(0, .ref h0)] := hl
  refine lv_aload_n (pc := 0) hx hb d_M_init_0 rfl (lv_at hl 0 rfl) ?_
  refine W.objInit hx hb hown (hts _ lm_M_objectInit) (hts _ i_objectInit_im) (hts _ i_objectInit_code) rfl (by rw [hml]; exact hl.1) rfl d_M_init_1 (Nat.le_of_ble_eq_true rfl) (Nat.le_of_ble_eq_true rfl) ?_
  refine W.eq (g2 := F0 m 4 ls []) rfl ?_
  refine lv_aload_n (pc := 4) hx hb d_M_init_4 rfl (lv_at hl 0 rfl) ?_
  refine lv_sipush (pc := 5) (v := nI 300) hx hb d_M_init_5 (by decide) ?_
  refine va_newa (pc := 8) (atype := .byte) (D := D) (cl := classes) (a0 := (300, .inl (fun _ => 0))) hx hb (hts _ i_arr_byte) rfl hK hP hD hS hA (fun _ => rfl) (by decide) (by decide) (by decide) (by decide) (by decide) d_M_init_8 (fun q8 c8 H hK hP hD hS => ?_)
  have hK : va_K D classes [(c8, .byte)] s := hK
  have hP : va_P D classes [(h0, .inr (1, [.null, .int 0, .null, .null, .int 0, .null, .int 0, .null])), (q8, .inl (c8, 300, .inl (fun _ => 0)))] H := hP
  have hD : va_D A [(h0, .inr (1, [.null, .int 0, .null, .null, .int 0, .null, .int 0, .null])), (q8, .inl (c8, 300, .inl (fun _ => 0)))] := hD
  refine va_putF (pc := 10) (D := D) (cl := classes) (ci := 1) (v := .ref q8) (ty := .array .byte) (C := R_M) (T := F_M) (N := 8) hx hb hts hin_M t_M t_M_ok n_M hown hK hP hD hS 0 rfl rfl 0 (by decide) (hts _ lk_M_tape) (fun _ h9 => h9) rfl hin rfl (by decide +kernel) rfl rfl (Nat.le_of_ble_eq_true rfl) d_M_init_10 (fun H locs hP hD hS => ?_)
  have hP : va_P D classes [(h0, .inr (1, [.ref q8, .int 0, .null, .null, .int 0, .null, .int 0, .null])), (q8, .inl (c8, 300, .inl (fun _ => 0)))] H := hP
  have hD : va_D A [(h0, .inr (1, [.ref q8, .int 0, .null, .null, .int 0, .null, .int 0, .null])), (q8, .inl (c8, 300, .inl (fun _ => 0)))] := hD
  refine lv_aload_n (pc := 13) hx hb d_M_init_13 rfl (lv_at hl 0 rfl) ?_
  refine lv_sipush (pc := 14) (v := nI 3624) hx hb d_M_init_14 (by decide) ?_
  refine va_newa (pc := 17) (atype := .byte) (D := D) (cl := classes) (a0 := (3624, .inl (fun _ => 0))) hx hb (hts _ i_arr_byte) rfl hK hP hD hS hA (fun _ => rfl) (by decide) (by decide) (by decide) (by decide) (by decide) d_M_init_17 (fun q17 c17 H hK hP hD hS => ?_)
  have hK : va_K D classes [(c8, .byte), (c17, .byte)] s := hK
  have hP : va_P D classes [(h0, .inr (1, [.ref q8, .int 0, .null, .null, .int 0, .null, .int 0, .null])), (q8, .inl (c8, 300, .inl (fun _ => 0))), (q17, .inl (c17, 3624, .inl (fun _ => 0)))] H := hP
  have hD : va_D A [(h0, .inr (1, [.ref q8, .int 0, .null, .null, .int 0, .null, .int 0, .null])), (q8, .inl (c8, 300, .inl (fun _ => 0))), (q17, .inl (c17, 3624, .inl (fun _ => 0)))] := hD
  refine va_putF (pc := 19) (D := D) (cl := classes) (ci := 1) (v := .ref q17) (ty := .array .byte) (C := R_M) (T := F_M) (N := 8) hx hb hts hin_M t_M t_M_ok n_M hown hK hP hD hS 0 rfl rfl 2 (by decide) (hts _ lk_M_terms) (fun _ h9 => h9) rfl hin rfl (by decide +kernel) rfl rfl (Nat.le_of_ble_eq_true rfl) d_M_init_19 (fun H locs hP hD hS => ?_)
  have hP : va_P D classes [(h0, .inr (1, [.ref q8, .int 0, .ref q17, .null, .int 0, .null, .int 0, .null])), (q8, .inl (c8, 300, .inl (fun _ => 0))), (q17, .inl (c17, 3624, .inl (fun _ => 0)))] H := hP
  have hD : va_D A [(h0, .inr (1, [.ref q8, .int 0, .ref q17, .null, .int 0, .null, .int 0, .null])), (q8, .inl (c8, 300, .inl (fun _ => 0))), (q17, .inl (c17, 3624, .inl (fun _ => 0)))] := hD
  refine lv_aload_n (pc := 22) hx hb d_M_init_22 rfl (lv_at hl 0 rfl) ?_
  refine lv_sipush (pc := 23) (v := nI 151) hx hb d_M_init_23 (by decide) ?_
  refine va_newa (pc := 26) (atype := .int) (D := D) (cl := classes) (a0 := (151, .inl (fun _ => 0))) hx hb (hts _ i_arr_int) rfl hK hP hD hS hA (fun _ => rfl) (by decide) (by decide) (by decide) (by decide) (by decide) d_M_init_26 (fun q26 c26 H hK hP hD hS => ?_)
  have hK : va_K D classes [(c8, .byte), (c17, .byte), (c26, .int)] s := hK
  have hP : va_P D classes [(h0, .inr (1, [.ref q8, .int 0, .ref q17, .null, .int 0, .null, .int 0, .null])), (q8, .inl (c8, 300, .inl (fun _ => 0))), (q17, .inl (c17, 3624, .inl (fun _ => 0))), (q26, .inl (c26, 151, .inl (fun _ => 0)))] H := hP
  have hD : va_D A [(h0, .inr (1, [.ref q8, .int 0, .ref q17, .null, .int 0, .null, .int 0, .null])), (q8, .inl (c8, 300, .inl (fun _ => 0))), (q17, .inl (c17, 3624, .inl (fun _ => 0))), (q26, .inl (c26, 151, .inl (fun _ => 0)))] := hD
  refine va_putF (pc := 28) (D := D) (cl := classes) (ci := 1) (v := .ref q26) (ty := .array .int) (C := R_M) (T := F_M) (N := 8) hx hb hts hin_M t_M t_M_ok n_M hown hK hP hD hS 0 rfl rfl 3 (by decide) (hts _ lk_M_sizes) (fun _ h9 => h9) rfl hin rfl (by decide +kernel) rfl rfl (Nat.le_of_ble_eq_true rfl) d_M_init_28 (fun H locs hP hD hS => ?_)
  have hP : va_P D classes [(h0, .inr (1, [.ref q8, .int 0, .ref q17, .ref q26, .int 0, .null, .int 0, .null])), (q8, .inl (c8, 300, .inl (fun _ => 0))), (q17, .inl (c17, 3624, .inl (fun _ => 0))), (q26, .inl (c26, 151, .inl (fun _ => 0)))] H := hP
  have hD : va_D A [(h0, .inr (1, [.ref q8, .int 0, .ref q17, .ref q26, .int 0, .null, .int 0, .null])), (q8, .inl (c8, 300, .inl (fun _ => 0))), (q17, .inl (c17, 3624, .inl (fun _ => 0))), (q26, .inl (c26, 151, .inl (fun _ => 0)))] := hD
  refine lv_aload_n (pc := 31) hx hb d_M_init_31 rfl (lv_at hl 0 rfl) ?_
  refine lv_sipush (pc := 32) (v := nI 300) hx hb d_M_init_32 (by decide) ?_
  refine va_newa (pc := 35) (atype := .byte) (D := D) (cl := classes) (a0 := (300, .inl (fun _ => 0))) hx hb (hts _ i_arr_byte) rfl hK hP hD hS hA (fun _ => rfl) (by decide) (by decide) (by decide) (by decide) (by decide) d_M_init_35 (fun q35 c35 H hK hP hD hS => ?_)
  have hK : va_K D classes [(c8, .byte), (c17, .byte), (c26, .int), (c35, .byte)] s := hK
  have hP : va_P D classes [(h0, .inr (1, [.ref q8, .int 0, .ref q17, .ref q26, .int 0, .null, .int 0, .null])), (q8, .inl (c8, 300, .inl (fun _ => 0))), (q17, .inl (c17, 3624, .inl (fun _ => 0))), (q26, .inl (c26, 151, .inl (fun _ => 0))), (q35, .inl (c35, 300, .inl (fun _ => 0)))] H := hP
  have hD : va_D A [(h0, .inr (1, [.ref q8, .int 0, .ref q17, .ref q26, .int 0, .null, .int 0, .null])), (q8, .inl (c8, 300, .inl (fun _ => 0))), (q17, .inl (c17, 3624, .inl (fun _ => 0))), (q26, .inl (c26, 151, .inl (fun _ => 0))), (q35, .inl (c35, 300, .inl (fun _ => 0)))] := hD
  refine va_putF (pc := 37) (D := D) (cl := classes) (ci := 1) (v := .ref q35) (ty := .array .byte) (C := R_M) (T := F_M) (N := 8) hx hb hts hin_M t_M t_M_ok n_M hown hK hP hD hS 0 rfl rfl 5 (by decide) (hts _ lk_M_word) (fun _ h9 => h9) rfl hin rfl (by decide +kernel) rfl rfl (Nat.le_of_ble_eq_true rfl) d_M_init_37 (fun H locs hP hD hS => ?_)
  have hP : va_P D classes [(h0, .inr (1, [.ref q8, .int 0, .ref q17, .ref q26, .int 0, .ref q35, .int 0, .null])), (q8, .inl (c8, 300, .inl (fun _ => 0))), (q17, .inl (c17, 3624, .inl (fun _ => 0))), (q26, .inl (c26, 151, .inl (fun _ => 0))), (q35, .inl (c35, 300, .inl (fun _ => 0)))] H := hP
  have hD : va_D A [(h0, .inr (1, [.ref q8, .int 0, .ref q17, .ref q26, .int 0, .ref q35, .int 0, .null])), (q8, .inl (c8, 300, .inl (fun _ => 0))), (q17, .inl (c17, 3624, .inl (fun _ => 0))), (q26, .inl (c26, 151, .inl (fun _ => 0))), (q35, .inl (c35, 300, .inl (fun _ => 0)))] := hD
  refine lv_aload_n (pc := 40) hx hb d_M_init_40 rfl (lv_at hl 0 rfl) ?_
  refine lv_sipush (pc := 41) (v := nI 625) hx hb d_M_init_41 (by decide) ?_
  refine va_newa (pc := 44) (atype := .int) (D := D) (cl := classes) (a0 := (625, .inl (fun _ => 0))) hx hb (hts _ i_arr_int) rfl hK hP hD hS hA (fun _ => rfl) (by decide) (by decide) (by decide) (by decide) (by decide) d_M_init_44 (fun q44 c44 H hK hP hD hS => ?_)
  have hK : va_K D classes [(c8, .byte), (c17, .byte), (c26, .int), (c35, .byte), (c44, .int)] s := hK
  have hP : va_P D classes [(h0, .inr (1, [.ref q8, .int 0, .ref q17, .ref q26, .int 0, .ref q35, .int 0, .null])), (q8, .inl (c8, 300, .inl (fun _ => 0))), (q17, .inl (c17, 3624, .inl (fun _ => 0))), (q26, .inl (c26, 151, .inl (fun _ => 0))), (q35, .inl (c35, 300, .inl (fun _ => 0))), (q44, .inl (c44, 625, .inl (fun _ => 0)))] H := hP
  have hD : va_D A [(h0, .inr (1, [.ref q8, .int 0, .ref q17, .ref q26, .int 0, .ref q35, .int 0, .null])), (q8, .inl (c8, 300, .inl (fun _ => 0))), (q17, .inl (c17, 3624, .inl (fun _ => 0))), (q26, .inl (c26, 151, .inl (fun _ => 0))), (q35, .inl (c35, 300, .inl (fun _ => 0))), (q44, .inl (c44, 625, .inl (fun _ => 0)))] := hD
  refine va_putF (pc := 46) (D := D) (cl := classes) (ci := 1) (v := .ref q44) (ty := .array .int) (C := R_M) (T := F_M) (N := 8) hx hb hts hin_M t_M t_M_ok n_M hown hK hP hD hS 0 rfl rfl 7 (by decide) (hts _ lk_M_table) (fun _ h9 => h9) rfl hin rfl (by decide +kernel) rfl rfl (Nat.le_of_ble_eq_true rfl) d_M_init_46 (fun H locs hP hD hS => ?_)
  have hP : va_P D classes [(h0, .inr (1, [.ref q8, .int 0, .ref q17, .ref q26, .int 0, .ref q35, .int 0, .ref q44])), (q8, .inl (c8, 300, .inl (fun _ => 0))), (q17, .inl (c17, 3624, .inl (fun _ => 0))), (q26, .inl (c26, 151, .inl (fun _ => 0))), (q35, .inl (c35, 300, .inl (fun _ => 0))), (q44, .inl (c44, 625, .inl (fun _ => 0)))] H := hP
  have hD : va_D A [(h0, .inr (1, [.ref q8, .int 0, .ref q17, .ref q26, .int 0, .ref q35, .int 0, .ref q44])), (q8, .inl (c8, 300, .inl (fun _ => 0))), (q17, .inl (c17, 3624, .inl (fun _ => 0))), (q26, .inl (c26, 151, .inl (fun _ => 0))), (q35, .inl (c35, 300, .inl (fun _ => 0))), (q44, .inl (c44, 625, .inl (fun _ => 0)))] := hD
  refine W.widen (k := 5) (n := 5000) (by decide) (by decide) ?_
  exact W.vret hx hb hr (fun t ht hW => ⟨⟨(), rfl, trivial, fun i => [h0, q8, q17, q26, q35, q44].getD i 0, fun i => [c8, c8, c17, c26, c35, c44].getD i c8, rfl, by rw [ht]; exact hP, va_K.moved hW.alike hK, hD⟩, hS.F ht⟩) hS.2.2 d_M_init_49
theorem l_callx {p : Program} {l : Launch} {e : Env} {R : Room} {s : State} {m : MethodId} {args : Array Value} {below : List Frame} {meth : Method} {cd : Code} {H : Heap} {locs : List Loc} {Q : State → Prop} {cc : ByteArray} {nL pc cells slots : Nat} {ls : Array Slot} {D : va_G} {A : Nat → Prop} {g g2 : Nat → Nat} {k k2 : Nat → ClassId} {u : xS} {v : mS} {y : MethodName} {bytes : ByteArray} {maxL index : Nat} {rt : Option FieldType} {rm : Room} {as rest : List Value} {post : Int32 → xS → Prop}
    (hF : CallFix p m cd cc nL s args gT R_law) (hK : va_K D classes (xT k ++ mT k2) s) (hA : ∀ q, s.heap.size ≤ q → A q) (hP : va_P D classes (xw g k u ++ mw g2 k2 v) H) (hD : va_D A (xw g k u ++ mw g2 k2 v)) (hS : va_S A s.heap H locs)
    (hM : gMi l y (gW y bytes maxL rt) rm D (xT k) (xw g k) (.ref (g 0) :: as) u post) (h1 : Cond.methodLink R_law index y ∈ gT) (hY : gY R_X y bytes maxL rt as.length) (hrc : rm.cells = 0) (hrs : rm.slots = 0) (hR : rm.frames + 1 ≤ R.frames ∧ 8 + (maxL + 11) + rm.locals ≤ R.locals) (hf : cells ≤ R.cells ∧ slots ≤ R.slots) (hls : ls.size = nL) (hrm : (rest.map fun v => v.category).sum ≤ 8) (hdg : decode cc pc = .ok (.invokevirtual index, 3))
    (kk : ∀ (r : Int32) (u1 : xS) (H1 : Heap) (locs1 : List Loc), post r u1 → va_P D classes (xw g k u1 ++ mw g2 k2 v) H1 → va_D A (xw g k u1 ++ mw g2 k2 v) → va_S A s.heap H1 locs1 → W p l e R s m args below meth cd H1 locs1 cells slots Q (F0 m (pc + 3) ls (.int r :: rest))) : W p l e R s m args below meth cd H locs cells slots Q (F0 m pc ls (as.reverse ++ .ref (g 0) :: rest)) := by
  have hPc := hP.sub (ws' := xw g k u) [0, 1, 2, 3, 4] rfl
  have hDc := hD.sub (ws' := xw g k u) [0, 1, 2, 3, 4] (by decide) rfl
  have hKc := hK.sub (tys' := xT k) [0, 1, 2, 3] rfl
  have hFc := va_free (wc := xw g k u) hD hS hA [0, 1, 2, 3, 4] rfl
  refine va_calli (va_runV (As := as) (rest := rest) hF (hM H.size) (g_cwV hF.2.2.2.2 h1 hY hrc hrs hR) ⟨fun a U g mk q => ?_, va_recv (q0 := 0) (ci := 0) hKc hPc rfl rfl, fun U hU hW => ?_⟩ rfl rfl hls rfl (lv_room hrm) hdg hf) hS (fun q _ h => hFc q h) hFc (fun r u1 t H1 locs1 ht hvm hp hB hz1 hk1 hS1 => ?_)
  · obtain ⟨q0, q1, qP, qK, qD⟩ := q
    exact ⟨q0, q1, qP, va_K.moved (u := U) (U := U.calling g mk a) (Vm.Alike.refl U.vm) qK, qD⟩
  · exact ⟨rfl, by rw [hU], by rw [hU]; exact hPc, va_K.moved hW.alike hKc, hDc.weaken (fun _ _ _ _ => trivial)⟩
  · obtain ⟨hP1, hK1, hD1⟩ := hB
    rw [ht] at hP1
    obtain ⟨hP2, hD2⟩ := va_join (wr := mw g2 k2 v) (w1 := xw g k u1) hP hD [0, 1, 2, 3, 4] [5, 6, 7, 8, 9, 10] rfl rfl (by decide) (by decide) hk1 hFc hP1 hD1
    exact kk r u1 H1 locs1 hp (hP2.sub (ws' := (xw g k u1 ++ mw g2 k2 v)) [6, 7, 8, 9, 10, 0, 1, 2, 3, 4, 5] rfl) (hD2.sub (ws' := (xw g k u1 ++ mw g2 k2 v)) [6, 7, 8, 9, 10, 0, 1, 2, 3, 4, 5] (by decide) rfl) hS1
theorem l_callm {p : Program} {l : Launch} {e : Env} {R : Room} {s : State} {m : MethodId} {args : Array Value} {below : List Frame} {meth : Method} {cd : Code} {H : Heap} {locs : List Loc} {Q : State → Prop} {cc : ByteArray} {nL pc cells slots : Nat} {ls : Array Slot} {D : va_G} {A : Nat → Prop} {g g2 : Nat → Nat} {k k2 : Nat → ClassId} {u : xS} {v : mS} {y : MethodName} {bytes : ByteArray} {maxL index : Nat} {rt : Option FieldType} {rm : Room} {as rest : List Value} {post : Int32 → mS → Prop}
    (hF : CallFix p m cd cc nL s args gT R_law) (hK : va_K D classes (xT k ++ mT k2) s) (hA : ∀ q, s.heap.size ≤ q → A q) (hP : va_P D classes (xw g k u ++ mw g2 k2 v) H) (hD : va_D A (xw g k u ++ mw g2 k2 v)) (hS : va_S A s.heap H locs)
    (hM : gMi l y (gW y bytes maxL rt) rm D (mT k2) (mw g2 k2) (.ref (g2 0) :: as) v post) (h1 : Cond.methodLink R_law index y ∈ gT) (hY : gY R_M y bytes maxL rt as.length) (hrc : rm.cells = 0) (hrs : rm.slots = 0) (hR : rm.frames + 1 ≤ R.frames ∧ 8 + (maxL + 11) + rm.locals ≤ R.locals) (hf : cells ≤ R.cells ∧ slots ≤ R.slots) (hls : ls.size = nL) (hrm : (rest.map fun v => v.category).sum ≤ 8) (hdg : decode cc pc = .ok (.invokevirtual index, 3))
    (kk : ∀ (r : Int32) (u1 : mS) (H1 : Heap) (locs1 : List Loc), post r u1 → va_P D classes (xw g k u ++ mw g2 k2 u1) H1 → va_D A (xw g k u ++ mw g2 k2 u1) → va_S A s.heap H1 locs1 → W p l e R s m args below meth cd H1 locs1 cells slots Q (F0 m (pc + 3) ls (.int r :: rest))) : W p l e R s m args below meth cd H locs cells slots Q (F0 m pc ls (as.reverse ++ .ref (g2 0) :: rest)) := by
  have hPc := hP.sub (ws' := mw g2 k2 v) [5, 6, 7, 8, 9, 10] rfl
  have hDc := hD.sub (ws' := mw g2 k2 v) [5, 6, 7, 8, 9, 10] (by decide) rfl
  have hKc := hK.sub (tys' := mT k2) [4, 5, 6, 7, 8] rfl
  have hFc := va_free (wc := mw g2 k2 v) hD hS hA [5, 6, 7, 8, 9, 10] rfl
  refine va_calli (va_runV (As := as) (rest := rest) hF (hM H.size) (g_cwV hF.2.2.2.2 h1 hY hrc hrs hR) ⟨fun a U g mk q => ?_, va_recv (q0 := 0) (ci := 1) hKc hPc rfl rfl, fun U hU hW => ?_⟩ rfl rfl hls rfl (lv_room hrm) hdg hf) hS (fun q _ h => hFc q h) hFc (fun r u1 t H1 locs1 ht hvm hp hB hz1 hk1 hS1 => ?_)
  · obtain ⟨q0, q1, qP, qK, qD⟩ := q
    exact ⟨q0, q1, qP, va_K.moved (u := U) (U := U.calling g mk a) (Vm.Alike.refl U.vm) qK, qD⟩
  · exact ⟨rfl, by rw [hU], by rw [hU]; exact hPc, va_K.moved hW.alike hKc, hDc.weaken (fun _ _ _ _ => trivial)⟩
  · obtain ⟨hP1, hK1, hD1⟩ := hB
    rw [ht] at hP1
    obtain ⟨hP2, hD2⟩ := va_join (wr := xw g k u) (w1 := mw g2 k2 u1) hP hD [5, 6, 7, 8, 9, 10] [0, 1, 2, 3, 4] rfl rfl (by decide) (by decide) hk1 hFc hP1 hD1
    exact kk r u1 H1 locs1 hp hP2 hD2 hS1
