theorem l_le {L i : Nat} (hL : L ≤ 3072) (hi : i ≤ 4000) (h : ¬ nI L - nI 6 < nI i) : i + 6 ≤ L := by
  rw [Int32.lt_iff_toInt_lt, pk_sub_toInt (by omega) (by omega), nI_toInt (by omega)] at h
  omega
theorem l_fx {tp t2 : Nat → Int32} {n : Nat} (h : tpr tp t2 n) : ∀ i, i < n → tp i = (fun i => sm (t2 i)) i ∧ by_ok ((fun i => sm (t2 i)) i) := fun i hi => ⟨(h i hi).2, by_sm (h i hi).1⟩
theorem l_fm {tp t2 : Nat → Int32} {n : Nat} (h : tpr tp t2 n) : ∀ i, i < n → by_ok (t2 i) := fun i hi => (h i hi).1
theorem l_tp0 {tp t2 : Nat → Int32} : tpr tp t2 0 := fun i hi => absurd hi (Nat.not_lt_zero _)
set_option maxHeartbeats 8000000 in
set_option maxRecDepth 100000 in
/-- the law's loop -/
theorem l_loop {p : Program} {ev : Env} {s : State} {m : MethodId} {below : List Frame} {meth : Method} {cd : Code} (l : Launch) {b L : Nat} {xs : Nat → Int32} {D : va_G} {A : Nat → Prop} {g g2 : Nat → Nat} {k k2 : Nat → ClassId} (hL : L ≤ 3072) (hx : p.tables.exec = Jvm.exec) (hb : cd.code = code) (hr : meth.sig.returnType = ret) (hml : cd.maxLocals = 4) (hown : s.vm.findClass R_law = some m.cls) (hts : ∀ w ∈ gT, w.before #[Value.ref b] s = true) (hX : va_X b L xs s s.heap) (hbl : b < s.heap.size) (hlk : meth.locks = false) (hK : va_K D classes (xT k ++ mT k2) s) (hA : ∀ q, s.heap.size ≤ q → A q) (hAb : ∀ q, A q → s.heap.size ≤ q) (hbA : ¬ A b) :
    ∀ (fu : Nat) (i n : Nat) (ts : List Tm) (tp sg ln ds t2 tm sz wd : Nat → Int32) (wl : Int32) (tb : Nat → Int32) (ls : Array Slot) (H : Heap) (locs : List Loc), L + 6 - i < fu → lv_has ls 4 [(0, .ref b), (1, .ref (g 0)), (2, .ref (g2 0)), (3, .int (nI i))] → va_P D classes (xw g k (tp, (nI n), sg, ln, (nI ts.length), ds) ++ mw g2 k2 (t2, (nI n), tm, sz, (nI ts.length), wd, wl, tb)) H → va_D A (xw g k (tp, (nI n), sg, ln, (nI ts.length), ds) ++ mw g2 k2 (t2, (nI n), tm, sz, (nI ts.length), wd, wl, tb)) → va_S A s.heap H locs → i ≤ 4000 → n ≤ 300 → ts.length ≤ 150 → tpr tp t2 n → tok ts sg ln → tok ts tm sz → W p l ev room_1 s m #[Value.ref b] below meth cd H locs 11 9114 (lw_Z below #[Value.ref b] s) (F0 m 18 ls []) := by
  intro fu
  induction fu with
  | zero => intro i n ts tp sg ln ds t2 tm sz wd wl tb ls H locs hn; exact absurd hn (Nat.not_lt_zero _)
  | succ fu ih =>
    intro i n ts tp sg ln ds t2 tm sz wd wl tb ls H locs hn hl hP hD hS hi hn3 hlen htp ht hm
    refine lv_iload_n (pc := 18) hx hb d_L_law_18 rfl (lv_at hl 3 rfl) ?_
    refine lv_aload_n (pc := 19) hx hb d_L_law_19 rfl (lv_at hl 0 rfl) ?_
    refine va_slen (pc := 20) hx hb hX hbl hbA hS d_L_law_20 ?_
    refine lv_bipush (pc := 21) (v := nI 6) hx hb d_L_law_21 (by decide) ?_
    refine lv_isub (pc := 23) hx hb d_L_law_23 ?_
    refine g_top (y := nI L - nI 6) (rfl) ?_
    refine lv_icmp_gt (pc := 24) (tgt := 344) hx hb d_L_law_24 (by decide) (fun hc24 => ?_) (fun hc24 => ?_)
    · refine va_forget (fun q hq => hAb _ (hS.2.2 q hq)) ?_
      refine W.widen (k := 11) (n := 9114) (by decide) (by decide) ?_
      refine lv_iconst (pc := 344) (v := 1) hx hb d_L_law_344 (by decide) ?_
      exact lw_ret hx hb hr hlk d_L_law_345
    · have h6 : i + 6 ≤ L := l_le hL hi hc24
      refine lv_aload_n (pc := 27) hx hb d_L_law_27 rfl (lv_at hl 0 rfl) ?_
      refine lv_iload_n (pc := 28) hx hb d_L_law_28 rfl (lv_at hl 3 rfl) ?_
      refine va_sld (pc := 29) hx hb hX hbl hbA hS (vp_in_nI (n := i) (by omega) (by omega)) d_L_law_29 ?_
      refine g_top (y := xs i) (congrArg xs (nI_clamp (by omega))) ?_
      refine lv_bipush (pc := 30) (v := 15) hx hb d_L_law_30 (by decide) ?_
      refine lv_iand (pc := 32) hx hb d_L_law_32 ?_
      obtain ⟨j, hj, ej⟩ := pk_andE (xs i) (m := 15) 4 (by decide)
      refine g_top ej ?_
      have hj2 : j = 0 ∨ j = 1 ∨ j = 2 ∨ j = 3 ∨ j = 4 ∨ j = 5 ∨ j = 6 ∨ j = 7 ∨ j = 8 ∨ j = 9 ∨ 10 ≤ j := by omega
      rcases hj2 with rfl | rfl | rfl | rfl | rfl | rfl | rfl | rfl | rfl | rfl | hj2
      · refine lv_tableIn (pc := 33) (tgt := 88) (off := 55) hx hb d_L_law_33 (by decide) (by decide) (by decide) (by decide) ?_
        refine lv_aload_n (pc := 88) hx hb d_L_law_88 rfl (lv_at hl 1 rfl) ?_
        refine lv_aload_n (pc := 89) hx hb d_L_law_89 rfl (lv_at hl 0 rfl) ?_
        refine lv_iload_n (pc := 90) hx hb d_L_law_90 rfl (lv_at hl 3 rfl) ?_
        refine lv_iconst (pc := 91) (v := nI 1) hx hb d_L_law_91 (by decide) ?_
        refine lv_iadd (pc := 92) hx hb d_L_law_92 ?_
        refine g_top (y := nI (i + 1)) (nI_add _ _) ?_
        refine va_sld (pc := 93) hx hb hX hbl hbA hS (vp_in_nI (n := i + 1) (by omega) (by omega)) d_L_law_93 ?_
        refine g_top (y := xs (i + 1)) (congrArg xs (nI_clamp (by omega))) ?_
        refine lv_aload_n (pc := 94) hx hb d_L_law_94 rfl (lv_at hl 0 rfl) ?_
        refine lv_iload_n (pc := 95) hx hb d_L_law_95 rfl (lv_at hl 3 rfl) ?_
        refine lv_iconst (pc := 96) (v := nI 2) hx hb d_L_law_96 (by decide) ?_
        refine lv_iadd (pc := 97) hx hb d_L_law_97 ?_
        refine g_top (y := nI (i + 2)) (nI_add _ _) ?_
        refine va_sld (pc := 98) hx hb hX hbl hbA hS (vp_in_nI (n := i + 2) (by omega) (by omega)) d_L_law_98 ?_
        refine g_top (y := xs (i + 2)) (congrArg xs (nI_clamp (by omega))) ?_
        refine lv_aload_n (pc := 99) hx hb d_L_law_99 rfl (lv_at hl 0 rfl) ?_
        refine lv_iload_n (pc := 100) hx hb d_L_law_100 rfl (lv_at hl 3 rfl) ?_
        refine lv_iconst (pc := 101) (v := nI 3) hx hb d_L_law_101 (by decide) ?_
        refine lv_iadd (pc := 102) hx hb d_L_law_102 ?_
        refine g_top (y := nI (i + 3)) (nI_add _ _) ?_
        refine va_sld (pc := 103) hx hb hX hbl hbA hS (vp_in_nI (n := i + 3) (by omega) (by omega)) d_L_law_103 ?_
        refine g_top (y := xs (i + 3)) (congrArg xs (nI_clamp (by omega))) ?_
        refine lv_aload_n (pc := 104) hx hb d_L_law_104 rfl (lv_at hl 0 rfl) ?_
        refine lv_iload_n (pc := 105) hx hb d_L_law_105 rfl (lv_at hl 3 rfl) ?_
        refine lv_iconst (pc := 106) (v := nI 4) hx hb d_L_law_106 (by decide) ?_
        refine lv_iadd (pc := 107) hx hb d_L_law_107 ?_
        refine g_top (y := nI (i + 4)) (nI_add _ _) ?_
        refine va_sld (pc := 108) hx hb hX hbl hbA hS (vp_in_nI (n := i + 4) (by omega) (by omega)) d_L_law_108 ?_
        refine g_top (y := xs (i + 4)) (congrArg xs (nI_clamp (by omega))) ?_
        refine lv_aload_n (pc := 109) hx hb d_L_law_109 rfl (lv_at hl 0 rfl) ?_
        refine lv_iload_n (pc := 110) hx hb d_L_law_110 rfl (lv_at hl 3 rfl) ?_
        refine lv_iconst (pc := 111) (v := nI 5) hx hb d_L_law_111 (by decide) ?_
        refine lv_iadd (pc := 112) hx hb d_L_law_112 ?_
        refine g_top (y := nI (i + 5)) (nI_add _ _) ?_
        refine va_sld (pc := 113) hx hb hX hbl hbA hS (vp_in_nI (n := i + 5) (by omega) (by omega)) d_L_law_113 ?_
        refine g_top (y := xs (i + 5)) (congrArg xs (nI_clamp (by omega))) ?_
        refine l_callx (pc := 114) (as := [.int (xs (i + 1)), .int (xs (i + 2)), .int (xs (i + 3)), .int (xs (i + 4)), .int (xs (i + 5))]) (rest := []) ⟨hx, hb, hml, hown, hts⟩ hK hA hP hD hS (c_X_feed l D g k tp sg ln _ ds (xs (i + 1)) (xs (i + 2)) (xs (i + 3)) (xs (i + 4)) (xs (i + 5)) hn3) lm_L_X_feed f_X_feed rfl rfl ⟨by decide, by decide⟩ ⟨by decide, by decide⟩ hl.1 (Nat.le_of_ble_eq_true rfl) d_L_law_114 (fun r1 u1 H locs hp1 hP hD hS => ?_)
        refine lv_aload_n (pc := 117) hx hb d_L_law_117 rfl (lv_at hl 2 rfl) ?_
        refine lv_aload_n (pc := 118) hx hb d_L_law_118 rfl (lv_at hl 0 rfl) ?_
        refine lv_iload_n (pc := 119) hx hb d_L_law_119 rfl (lv_at hl 3 rfl) ?_
        refine lv_iconst (pc := 120) (v := nI 1) hx hb d_L_law_120 (by decide) ?_
        refine lv_iadd (pc := 121) hx hb d_L_law_121 ?_
        refine g_top (y := nI (i + 1)) (nI_add _ _) ?_
        refine va_sld (pc := 122) hx hb hX hbl hbA hS (vp_in_nI (n := i + 1) (by omega) (by omega)) d_L_law_122 ?_
        refine g_top (y := xs (i + 1)) (congrArg xs (nI_clamp (by omega))) ?_
        refine lv_aload_n (pc := 123) hx hb d_L_law_123 rfl (lv_at hl 0 rfl) ?_
        refine lv_iload_n (pc := 124) hx hb d_L_law_124 rfl (lv_at hl 3 rfl) ?_
        refine lv_iconst (pc := 125) (v := nI 2) hx hb d_L_law_125 (by decide) ?_
        refine lv_iadd (pc := 126) hx hb d_L_law_126 ?_
        refine g_top (y := nI (i + 2)) (nI_add _ _) ?_
        refine va_sld (pc := 127) hx hb hX hbl hbA hS (vp_in_nI (n := i + 2) (by omega) (by omega)) d_L_law_127 ?_
        refine g_top (y := xs (i + 2)) (congrArg xs (nI_clamp (by omega))) ?_
        refine lv_aload_n (pc := 128) hx hb d_L_law_128 rfl (lv_at hl 0 rfl) ?_
        refine lv_iload_n (pc := 129) hx hb d_L_law_129 rfl (lv_at hl 3 rfl) ?_
        refine lv_iconst (pc := 130) (v := nI 3) hx hb d_L_law_130 (by decide) ?_
        refine lv_iadd (pc := 131) hx hb d_L_law_131 ?_
        refine g_top (y := nI (i + 3)) (nI_add _ _) ?_
        refine va_sld (pc := 132) hx hb hX hbl hbA hS (vp_in_nI (n := i + 3) (by omega) (by omega)) d_L_law_132 ?_
        refine g_top (y := xs (i + 3)) (congrArg xs (nI_clamp (by omega))) ?_
        refine lv_aload_n (pc := 133) hx hb d_L_law_133 rfl (lv_at hl 0 rfl) ?_
        refine lv_iload_n (pc := 134) hx hb d_L_law_134 rfl (lv_at hl 3 rfl) ?_
        refine lv_iconst (pc := 135) (v := nI 4) hx hb d_L_law_135 (by decide) ?_
        refine lv_iadd (pc := 136) hx hb d_L_law_136 ?_
        refine g_top (y := nI (i + 4)) (nI_add _ _) ?_
        refine va_sld (pc := 137) hx hb hX hbl hbA hS (vp_in_nI (n := i + 4) (by omega) (by omega)) d_L_law_137 ?_
        refine g_top (y := xs (i + 4)) (congrArg xs (nI_clamp (by omega))) ?_
        refine lv_aload_n (pc := 138) hx hb d_L_law_138 rfl (lv_at hl 0 rfl) ?_
        refine lv_iload_n (pc := 139) hx hb d_L_law_139 rfl (lv_at hl 3 rfl) ?_
        refine lv_iconst (pc := 140) (v := nI 5) hx hb d_L_law_140 (by decide) ?_
        refine lv_iadd (pc := 141) hx hb d_L_law_141 ?_
        refine g_top (y := nI (i + 5)) (nI_add _ _) ?_
        refine va_sld (pc := 142) hx hb hX hbl hbA hS (vp_in_nI (n := i + 5) (by omega) (by omega)) d_L_law_142 ?_
        refine g_top (y := xs (i + 5)) (congrArg xs (nI_clamp (by omega))) ?_
        refine l_callm (pc := 143) (as := [.int (xs (i + 1)), .int (xs (i + 2)), .int (xs (i + 3)), .int (xs (i + 4)), .int (xs (i + 5))]) (rest := [.int r1]) ⟨hx, hb, hml, hown, hts⟩ hK hA hP hD hS (c_M_feed l D g2 k2 t2 tm sz _ wd wl tb (xs (i + 1)) (xs (i + 2)) (xs (i + 3)) (xs (i + 4)) (xs (i + 5)) hn3) lm_L_M_feed f_M_feed rfl rfl ⟨by decide, by decide⟩ ⟨by decide, by decide⟩ hl.1 (Nat.le_of_ble_eq_true rfl) d_L_law_143 (fun r2 u1 H locs hp2 hP hD hS => ?_)
        rcases hp1 with ⟨ha, rfl, rfl⟩ | ⟨ha, rfl, rfl⟩
        · rcases hp2 with ⟨hb2, rfl, rfl⟩ | ⟨hb2, rfl, rfl⟩
          · refine lv_icmp_eq (pc := 146) (tgt := 338) hx hb d_L_law_146 (by decide) (fun _ => ?_) (fun hne => absurd (rfl) hne)
            refine lv_iinc (pc := 338) (k := 3) (v := nI (i + 6)) hx hb d_L_law_338 hl rfl (nI_i6 i) (by decide) rfl (fun ls hl => ?_)
            have hl : lv_has ls 4 [(3, .int (nI (i + 6))), (0, .ref (b)), (1, .ref (g 0)), (2, .ref (g2 0))] := hl
            refine lv_goto (pc := 341) (tgt := 18) hx hb d_L_law_341 (by decide) ?_
            exact ih (i + 6) n ts tp sg ln ds t2 tm sz wd wl tb _ _ _ (by omega) (lv_sub hl [1, 2, 3, 0] rfl) hP hD hS (by omega) hn3 hlen htp ht hm
          · omega
        · rcases hp2 with ⟨hb2, rfl, rfl⟩ | ⟨hb2, rfl, rfl⟩
          · omega
          · refine lv_icmp_eq (pc := 146) (tgt := 338) hx hb d_L_law_146 (by decide) (fun _ => ?_) (fun hne => absurd (rfl) hne)
            refine lv_iinc (pc := 338) (k := 3) (v := nI (i + 6)) hx hb d_L_law_338 hl rfl (nI_i6 i) (by decide) rfl (fun ls hl => ?_)
            have hl : lv_has ls 4 [(3, .int (nI (i + 6))), (0, .ref (b)), (1, .ref (g 0)), (2, .ref (g2 0))] := hl
            refine lv_goto (pc := 341) (tgt := 18) hx hb d_L_law_341 (by decide) ?_
            exact ih (i + 6) (n + 20) ts _ sg ln ds _ tm sz wd wl tb _ _ _ (by omega) (lv_sub hl [1, 2, 3, 0] rfl) hP hD hS (by omega) hb2 hlen (p20_rel (xs (i + 1)) (xs (i + 2)) (xs (i + 3)) (xs (i + 4)) (xs (i + 5)) htp) ht hm
      · refine lv_tableIn (pc := 33) (tgt := 151) (off := 118) hx hb d_L_law_33 (by decide) (by decide) (by decide) (by decide) ?_
        refine lv_aload_n (pc := 151) hx hb d_L_law_151 rfl (lv_at hl 1 rfl) ?_
        refine lv_aload_n (pc := 152) hx hb d_L_law_152 rfl (lv_at hl 0 rfl) ?_
        refine lv_iload_n (pc := 153) hx hb d_L_law_153 rfl (lv_at hl 3 rfl) ?_
        refine lv_iconst (pc := 154) (v := nI 1) hx hb d_L_law_154 (by decide) ?_
        refine lv_iadd (pc := 155) hx hb d_L_law_155 ?_
        refine g_top (y := nI (i + 1)) (nI_add _ _) ?_
        refine va_sld (pc := 156) hx hb hX hbl hbA hS (vp_in_nI (n := i + 1) (by omega) (by omega)) d_L_law_156 ?_
        refine g_top (y := xs (i + 1)) (congrArg xs (nI_clamp (by omega))) ?_
        refine l_callx (pc := 157) (as := [.int (xs (i + 1))]) (rest := []) ⟨hx, hb, hml, hown, hts⟩ hK hA hP hD hS (c_X_end l D g k tp _ sg ln _ ds (xs (i + 1))) lm_L_X_end f_X_end rfl rfl ⟨by decide, by decide⟩ ⟨by decide, by decide⟩ hl.1 (Nat.le_of_ble_eq_true rfl) d_L_law_157 (fun r1 u1 H locs hp1 hP hD hS => ?_)
        refine lv_aload_n (pc := 160) hx hb d_L_law_160 rfl (lv_at hl 2 rfl) ?_
        refine lv_aload_n (pc := 161) hx hb d_L_law_161 rfl (lv_at hl 0 rfl) ?_
        refine lv_iload_n (pc := 162) hx hb d_L_law_162 rfl (lv_at hl 3 rfl) ?_
        refine lv_iconst (pc := 163) (v := nI 1) hx hb d_L_law_163 (by decide) ?_
        refine lv_iadd (pc := 164) hx hb d_L_law_164 ?_
        refine g_top (y := nI (i + 1)) (nI_add _ _) ?_
        refine va_sld (pc := 165) hx hb hX hbl hbA hS (vp_in_nI (n := i + 1) (by omega) (by omega)) d_L_law_165 ?_
        refine g_top (y := xs (i + 1)) (congrArg xs (nI_clamp (by omega))) ?_
        refine l_callm (pc := 166) (as := [.int (xs (i + 1))]) (rest := [.int r1]) ⟨hx, hb, hml, hown, hts⟩ hK hA hP hD hS (c_M_end l D g2 k2 t2 _ tm sz _ wd wl tb (xs (i + 1))) lm_L_M_end f_M_end rfl rfl ⟨by decide, by decide⟩ ⟨by decide, by decide⟩ hl.1 (Nat.le_of_ble_eq_true rfl) d_L_law_166 (fun r2 u1 H locs hp2 hP hD hS => ?_)
        rcases hp1 with ⟨ha, rfl, rfl⟩ | ⟨ha, ha2, rfl, rfl⟩
        · rcases hp2 with ⟨hb2, rfl, rfl⟩ | ⟨hb2, hb3, rfl, rfl⟩
          · refine lv_icmp_eq (pc := 169) (tgt := 338) hx hb d_L_law_169 (by decide) (fun _ => ?_) (fun hne => absurd (rfl) hne)
            refine lv_iinc (pc := 338) (k := 3) (v := nI (i + 6)) hx hb d_L_law_338 hl rfl (nI_i6 i) (by decide) rfl (fun ls hl => ?_)
            have hl : lv_has ls 4 [(3, .int (nI (i + 6))), (0, .ref (b)), (1, .ref (g 0)), (2, .ref (g2 0))] := hl
            refine lv_goto (pc := 341) (tgt := 18) hx hb d_L_law_341 (by decide) ?_
            exact ih (i + 6) n ts tp sg ln ds t2 tm sz wd wl tb _ _ _ (by omega) (lv_sub hl [1, 2, 3, 0] rfl) hP hD hS (by omega) hn3 hlen htp ht hm
          · exact (ha.elim hb2 (fun z => nl z hb3)).elim
        · rcases hp2 with ⟨hb2, rfl, rfl⟩ | ⟨hb2, hb3, rfl, rfl⟩
          · exact (hb2.elim ha (fun z => nl z ha2)).elim
          · obtain ⟨q, hq, eq⟩ := nI_of ha
            have hqn : q ≤ n := (nI_leI hq (by omega)).mp (by rw [← eq]; exact ha2)
            rw [eq] at hP hD ⊢
            refine lv_icmp_eq (pc := 169) (tgt := 338) hx hb d_L_law_169 (by decide) (fun _ => ?_) (fun hne => absurd (rfl) hne)
            refine lv_iinc (pc := 338) (k := 3) (v := nI (i + 6)) hx hb d_L_law_338 hl rfl (nI_i6 i) (by decide) rfl (fun ls hl => ?_)
            have hl : lv_has ls 4 [(3, .int (nI (i + 6))), (0, .ref (b)), (1, .ref (g 0)), (2, .ref (g2 0))] := hl
            refine lv_goto (pc := 341) (tgt := 18) hx hb d_L_law_341 (by decide) ?_
            exact ih (i + 6) q ts tp sg ln ds t2 tm sz wd wl tb _ _ _ (by omega) (lv_sub hl [1, 2, 3, 0] rfl) hP hD hS (by omega) (by omega) hlen (fun z hz => htp z (by omega)) ht hm
      · refine lv_tableIn (pc := 33) (tgt := 174) (off := 141) hx hb d_L_law_33 (by decide) (by decide) (by decide) (by decide) ?_
        refine lv_aload_n (pc := 174) hx hb d_L_law_174 rfl (lv_at hl 1 rfl) ?_
        refine l_callx (pc := 175) (as := []) (rest := []) ⟨hx, hb, hml, hown, hts⟩ hK hA hP hD hS (c_X_read l D g k tp sg ln _ ds (f := fun i => sm (t2 i)) hn3 (l_fx htp)) lm_L_X_read f_X_read rfl rfl ⟨by decide, by decide⟩ ⟨by decide, by decide⟩ hl.1 (Nat.le_of_ble_eq_true rfl) d_L_law_175 (fun r1 u1 H locs hp1 hP hD hS => ?_)
        refine lv_aload_n (pc := 178) hx hb d_L_law_178 rfl (lv_at hl 2 rfl) ?_
        refine l_callm (pc := 179) (as := []) (rest := [.int r1]) ⟨hx, hb, hml, hown, hts⟩ hK hA hP hD hS (c_M_read l D g2 k2 t2 tm sz _ wd wl tb hn3 (l_fm htp)) lm_L_M_read f_M_read rfl rfl ⟨by decide, by decide⟩ ⟨by decide, by decide⟩ hl.1 (Nat.le_of_ble_eq_true rfl) d_L_law_179 (fun r2 u1 H locs hp2 hP hD hS => ?_)
        obtain ⟨tp1, sg1, ln1, rfl, rfl, hk1⟩ := hp1
        obtain ⟨tm1, sz1, wd1, wl1, rfl, rfl, hk2⟩ := hp2
        refine lv_icmp_eq (pc := 182) (tgt := 338) hx hb d_L_law_182 (by decide) (fun _ => ?_) (fun hne => absurd (rfl) hne)
        refine lv_iinc (pc := 338) (k := 3) (v := nI (i + 6)) hx hb d_L_law_338 hl rfl (nI_i6 i) (by decide) rfl (fun ls hl => ?_)
        have hl : lv_has ls 4 [(3, .int (nI (i + 6))), (0, .ref (b)), (1, .ref (g 0)), (2, .ref (g2 0))] := hl
        refine lv_goto (pc := 341) (tgt := 18) hx hb d_L_law_341 (by decide) ?_
        exact ih (i + 6) 0 (rdT (fun i => sm (t2 i)) n) tp1 sg1 ln1 ds t2 tm1 sz1 wd1 wl1 tb _ _ _ (by omega) (lv_sub hl [1, 2, 3, 0] rfl) hP hD hS (by omega) (Nat.zero_le _) (rdT_len hn3) l_tp0 hk1 hk2
      · refine lv_tableIn (pc := 33) (tgt := 187) (off := 154) hx hb d_L_law_33 (by decide) (by decide) (by decide) (by decide) ?_
        refine lv_aload_n (pc := 187) hx hb d_L_law_187 rfl (lv_at hl 1 rfl) ?_
        refine lv_aload_n (pc := 188) hx hb d_L_law_188 rfl (lv_at hl 0 rfl) ?_
        refine lv_iload_n (pc := 189) hx hb d_L_law_189 rfl (lv_at hl 3 rfl) ?_
        refine lv_iconst (pc := 190) (v := nI 1) hx hb d_L_law_190 (by decide) ?_
        refine lv_iadd (pc := 191) hx hb d_L_law_191 ?_
        refine g_top (y := nI (i + 1)) (nI_add _ _) ?_
        refine va_sld (pc := 192) hx hb hX hbl hbA hS (vp_in_nI (n := i + 1) (by omega) (by omega)) d_L_law_192 ?_
        refine g_top (y := xs (i + 1)) (congrArg xs (nI_clamp (by omega))) ?_
        refine lv_aload_n (pc := 193) hx hb d_L_law_193 rfl (lv_at hl 0 rfl) ?_
        refine lv_iload_n (pc := 194) hx hb d_L_law_194 rfl (lv_at hl 3 rfl) ?_
        refine lv_iconst (pc := 195) (v := nI 2) hx hb d_L_law_195 (by decide) ?_
        refine lv_iadd (pc := 196) hx hb d_L_law_196 ?_
        refine g_top (y := nI (i + 2)) (nI_add _ _) ?_
        refine va_sld (pc := 197) hx hb hX hbl hbA hS (vp_in_nI (n := i + 2) (by omega) (by omega)) d_L_law_197 ?_
        refine g_top (y := xs (i + 2)) (congrArg xs (nI_clamp (by omega))) ?_
        refine l_callx (pc := 198) (as := [.int (xs (i + 1)), .int (xs (i + 2))]) (rest := []) ⟨hx, hb, hml, hown, hts⟩ hK hA hP hD hS (c_X_sign l D g k tp _ ds (xs (i + 1)) (xs (i + 2)) ht hlen) lm_L_X_sign f_X_sign rfl rfl ⟨by decide, by decide⟩ ⟨by decide, by decide⟩ hl.1 (Nat.le_of_ble_eq_true rfl) d_L_law_198 (fun r1 u1 H locs hp1 hP hD hS => ?_)
        refine lv_aload_n (pc := 201) hx hb d_L_law_201 rfl (lv_at hl 2 rfl) ?_
        refine lv_aload_n (pc := 202) hx hb d_L_law_202 rfl (lv_at hl 0 rfl) ?_
        refine lv_iload_n (pc := 203) hx hb d_L_law_203 rfl (lv_at hl 3 rfl) ?_
        refine lv_iconst (pc := 204) (v := nI 1) hx hb d_L_law_204 (by decide) ?_
        refine lv_iadd (pc := 205) hx hb d_L_law_205 ?_
        refine g_top (y := nI (i + 1)) (nI_add _ _) ?_
        refine va_sld (pc := 206) hx hb hX hbl hbA hS (vp_in_nI (n := i + 1) (by omega) (by omega)) d_L_law_206 ?_
        refine g_top (y := xs (i + 1)) (congrArg xs (nI_clamp (by omega))) ?_
        refine lv_aload_n (pc := 207) hx hb d_L_law_207 rfl (lv_at hl 0 rfl) ?_
        refine lv_iload_n (pc := 208) hx hb d_L_law_208 rfl (lv_at hl 3 rfl) ?_
        refine lv_iconst (pc := 209) (v := nI 2) hx hb d_L_law_209 (by decide) ?_
        refine lv_iadd (pc := 210) hx hb d_L_law_210 ?_
        refine g_top (y := nI (i + 2)) (nI_add _ _) ?_
        refine va_sld (pc := 211) hx hb hX hbl hbA hS (vp_in_nI (n := i + 2) (by omega) (by omega)) d_L_law_211 ?_
        refine g_top (y := xs (i + 2)) (congrArg xs (nI_clamp (by omega))) ?_
        refine l_callm (pc := 212) (as := [.int (xs (i + 1)), .int (xs (i + 2))]) (rest := [.int r1]) ⟨hx, hb, hml, hown, hts⟩ hK hA hP hD hS (c_M_sign l D g2 k2 t2 _ tm sz wd wl tb (xs (i + 1)) (xs (i + 2)) hm hlen) lm_L_M_sign f_M_sign rfl rfl ⟨by decide, by decide⟩ ⟨by decide, by decide⟩ hl.1 (Nat.le_of_ble_eq_true rfl) d_L_law_212 (fun r2 u1 H locs hp2 hP hD hS => ?_)
        obtain ⟨rfl, rfl⟩ := hp1
        obtain ⟨rfl, rfl⟩ := hp2
        refine lv_icmp_eq (pc := 215) (tgt := 338) hx hb d_L_law_215 (by decide) (fun _ => ?_) (fun hne => absurd (rfl) hne)
        refine lv_iinc (pc := 338) (k := 3) (v := nI (i + 6)) hx hb d_L_law_338 hl rfl (nI_i6 i) (by decide) rfl (fun ls hl => ?_)
        have hl : lv_has ls 4 [(3, .int (nI (i + 6))), (0, .ref (b)), (1, .ref (g 0)), (2, .ref (g2 0))] := hl
        refine lv_goto (pc := 341) (tgt := 18) hx hb d_L_law_341 (by decide) ?_
        exact ih (i + 6) n ts tp sg ln ds t2 tm sz wd wl tb _ _ _ (by omega) (lv_sub hl [1, 2, 3, 0] rfl) hP hD hS (by omega) hn3 hlen htp ht hm
      · refine lv_tableIn (pc := 33) (tgt := 220) (off := 187) hx hb d_L_law_33 (by decide) (by decide) (by decide) (by decide) ?_
        refine lv_aload_n (pc := 220) hx hb d_L_law_220 rfl (lv_at hl 1 rfl) ?_
        refine l_callx (pc := 221) (as := []) (rest := []) ⟨hx, hb, hml, hown, hts⟩ hK hA hP hD hS (c_X_different l D g k tp _ ds ht hlen) lm_L_X_different f_X_different rfl rfl ⟨by decide, by decide⟩ ⟨by decide, by decide⟩ hl.1 (Nat.le_of_ble_eq_true rfl) d_L_law_221 (fun r1 u1 H locs hp1 hP hD hS => ?_)
        refine lv_aload_n (pc := 224) hx hb d_L_law_224 rfl (lv_at hl 2 rfl) ?_
        refine l_callm (pc := 225) (as := []) (rest := [.int r1]) ⟨hx, hb, hml, hown, hts⟩ hK hA hP hD hS (c_M_different l D g2 k2 t2 _ tm sz wd wl tb hm hlen) lm_L_M_different f_M_different rfl rfl ⟨by decide, by decide⟩ ⟨by decide, by decide⟩ hl.1 (Nat.le_of_ble_eq_true rfl) d_L_law_225 (fun r2 u1 H locs hp2 hP hD hS => ?_)
        obtain ⟨rfl, rfl⟩ := hp1
        obtain ⟨rfl, rfl⟩ := hp2
        refine lv_icmp_eq (pc := 228) (tgt := 338) hx hb d_L_law_228 (by decide) (fun _ => ?_) (fun hne => absurd (rfl) hne)
        refine lv_iinc (pc := 338) (k := 3) (v := nI (i + 6)) hx hb d_L_law_338 hl rfl (nI_i6 i) (by decide) rfl (fun ls hl => ?_)
        have hl : lv_has ls 4 [(3, .int (nI (i + 6))), (0, .ref (b)), (1, .ref (g 0)), (2, .ref (g2 0))] := hl
        refine lv_goto (pc := 341) (tgt := 18) hx hb d_L_law_341 (by decide) ?_
        exact ih (i + 6) n ts tp sg ln ds t2 tm sz wd wl tb _ _ _ (by omega) (lv_sub hl [1, 2, 3, 0] rfl) hP hD hS (by omega) hn3 hlen htp ht hm
      · refine lv_tableIn (pc := 33) (tgt := 233) (off := 200) hx hb d_L_law_33 (by decide) (by decide) (by decide) (by decide) ?_
        refine lv_aload_n (pc := 233) hx hb d_L_law_233 rfl (lv_at hl 1 rfl) ?_
        refine lv_aload_n (pc := 234) hx hb d_L_law_234 rfl (lv_at hl 0 rfl) ?_
        refine lv_iload_n (pc := 235) hx hb d_L_law_235 rfl (lv_at hl 3 rfl) ?_
        refine lv_iconst (pc := 236) (v := nI 1) hx hb d_L_law_236 (by decide) ?_
        refine lv_iadd (pc := 237) hx hb d_L_law_237 ?_
        refine g_top (y := nI (i + 1)) (nI_add _ _) ?_
        refine va_sld (pc := 238) hx hb hX hbl hbA hS (vp_in_nI (n := i + 1) (by omega) (by omega)) d_L_law_238 ?_
        refine g_top (y := xs (i + 1)) (congrArg xs (nI_clamp (by omega))) ?_
        refine l_callx (pc := 239) (as := [.int (xs (i + 1))]) (rest := []) ⟨hx, hb, hml, hown, hts⟩ hK hA hP hD hS (c_X_first l D g k tp _ ds (xs (i + 1)) ht hlen) lm_L_X_first f_X_first rfl rfl ⟨by decide, by decide⟩ ⟨by decide, by decide⟩ hl.1 (Nat.le_of_ble_eq_true rfl) d_L_law_239 (fun r1 u1 H locs hp1 hP hD hS => ?_)
        refine lv_aload_n (pc := 242) hx hb d_L_law_242 rfl (lv_at hl 2 rfl) ?_
        refine lv_aload_n (pc := 243) hx hb d_L_law_243 rfl (lv_at hl 0 rfl) ?_
        refine lv_iload_n (pc := 244) hx hb d_L_law_244 rfl (lv_at hl 3 rfl) ?_
        refine lv_iconst (pc := 245) (v := nI 1) hx hb d_L_law_245 (by decide) ?_
        refine lv_iadd (pc := 246) hx hb d_L_law_246 ?_
        refine g_top (y := nI (i + 1)) (nI_add _ _) ?_
        refine va_sld (pc := 247) hx hb hX hbl hbA hS (vp_in_nI (n := i + 1) (by omega) (by omega)) d_L_law_247 ?_
        refine g_top (y := xs (i + 1)) (congrArg xs (nI_clamp (by omega))) ?_
        refine l_callm (pc := 248) (as := [.int (xs (i + 1))]) (rest := [.int r1]) ⟨hx, hb, hml, hown, hts⟩ hK hA hP hD hS (c_M_first l D g2 k2 t2 _ tm sz wd wl tb (xs (i + 1)) hm hlen) lm_L_M_first f_M_first rfl rfl ⟨by decide, by decide⟩ ⟨by decide, by decide⟩ hl.1 (Nat.le_of_ble_eq_true rfl) d_L_law_248 (fun r2 u1 H locs hp2 hP hD hS => ?_)
        obtain ⟨rfl, rfl⟩ := hp1
        obtain ⟨rfl, rfl⟩ := hp2
        refine lv_icmp_eq (pc := 251) (tgt := 338) hx hb d_L_law_251 (by decide) (fun _ => ?_) (fun hne => absurd (rfl) hne)
        refine lv_iinc (pc := 338) (k := 3) (v := nI (i + 6)) hx hb d_L_law_338 hl rfl (nI_i6 i) (by decide) rfl (fun ls hl => ?_)
        have hl : lv_has ls 4 [(3, .int (nI (i + 6))), (0, .ref (b)), (1, .ref (g 0)), (2, .ref (g2 0))] := hl
        refine lv_goto (pc := 341) (tgt := 18) hx hb d_L_law_341 (by decide) ?_
        exact ih (i + 6) n ts tp sg ln ds t2 tm sz wd wl tb _ _ _ (by omega) (lv_sub hl [1, 2, 3, 0] rfl) hP hD hS (by omega) hn3 hlen htp ht hm
      · refine lv_tableIn (pc := 33) (tgt := 256) (off := 223) hx hb d_L_law_33 (by decide) (by decide) (by decide) (by decide) ?_
        refine lv_aload_n (pc := 256) hx hb d_L_law_256 rfl (lv_at hl 1 rfl) ?_
        refine lv_aload_n (pc := 257) hx hb d_L_law_257 rfl (lv_at hl 0 rfl) ?_
        refine lv_iload_n (pc := 258) hx hb d_L_law_258 rfl (lv_at hl 3 rfl) ?_
        refine lv_iconst (pc := 259) (v := nI 1) hx hb d_L_law_259 (by decide) ?_
        refine lv_iadd (pc := 260) hx hb d_L_law_260 ?_
        refine g_top (y := nI (i + 1)) (nI_add _ _) ?_
        refine va_sld (pc := 261) hx hb hX hbl hbA hS (vp_in_nI (n := i + 1) (by omega) (by omega)) d_L_law_261 ?_
        refine g_top (y := xs (i + 1)) (congrArg xs (nI_clamp (by omega))) ?_
        refine lv_aload_n (pc := 262) hx hb d_L_law_262 rfl (lv_at hl 0 rfl) ?_
        refine lv_iload_n (pc := 263) hx hb d_L_law_263 rfl (lv_at hl 3 rfl) ?_
        refine lv_iconst (pc := 264) (v := nI 2) hx hb d_L_law_264 (by decide) ?_
        refine lv_iadd (pc := 265) hx hb d_L_law_265 ?_
        refine g_top (y := nI (i + 2)) (nI_add _ _) ?_
        refine va_sld (pc := 266) hx hb hX hbl hbA hS (vp_in_nI (n := i + 2) (by omega) (by omega)) d_L_law_266 ?_
        refine g_top (y := xs (i + 2)) (congrArg xs (nI_clamp (by omega))) ?_
        refine l_callx (pc := 267) (as := [.int (xs (i + 1)), .int (xs (i + 2))]) (rest := []) ⟨hx, hb, hml, hown, hts⟩ hK hA hP hD hS (c_X_compare l D g k tp _ ds (xs (i + 1)) (xs (i + 2)) ht hlen) lm_L_X_compare f_X_compare rfl rfl ⟨by decide, by decide⟩ ⟨by decide, by decide⟩ hl.1 (Nat.le_of_ble_eq_true rfl) d_L_law_267 (fun r1 u1 H locs hp1 hP hD hS => ?_)
        refine lv_aload_n (pc := 270) hx hb d_L_law_270 rfl (lv_at hl 2 rfl) ?_
        refine lv_aload_n (pc := 271) hx hb d_L_law_271 rfl (lv_at hl 0 rfl) ?_
        refine lv_iload_n (pc := 272) hx hb d_L_law_272 rfl (lv_at hl 3 rfl) ?_
        refine lv_iconst (pc := 273) (v := nI 1) hx hb d_L_law_273 (by decide) ?_
        refine lv_iadd (pc := 274) hx hb d_L_law_274 ?_
        refine g_top (y := nI (i + 1)) (nI_add _ _) ?_
        refine va_sld (pc := 275) hx hb hX hbl hbA hS (vp_in_nI (n := i + 1) (by omega) (by omega)) d_L_law_275 ?_
        refine g_top (y := xs (i + 1)) (congrArg xs (nI_clamp (by omega))) ?_
        refine lv_aload_n (pc := 276) hx hb d_L_law_276 rfl (lv_at hl 0 rfl) ?_
        refine lv_iload_n (pc := 277) hx hb d_L_law_277 rfl (lv_at hl 3 rfl) ?_
        refine lv_iconst (pc := 278) (v := nI 2) hx hb d_L_law_278 (by decide) ?_
        refine lv_iadd (pc := 279) hx hb d_L_law_279 ?_
        refine g_top (y := nI (i + 2)) (nI_add _ _) ?_
        refine va_sld (pc := 280) hx hb hX hbl hbA hS (vp_in_nI (n := i + 2) (by omega) (by omega)) d_L_law_280 ?_
        refine g_top (y := xs (i + 2)) (congrArg xs (nI_clamp (by omega))) ?_
        refine l_callm (pc := 281) (as := [.int (xs (i + 1)), .int (xs (i + 2))]) (rest := [.int r1]) ⟨hx, hb, hml, hown, hts⟩ hK hA hP hD hS (c_M_compare l D g2 k2 t2 _ tm sz wd wl tb (xs (i + 1)) (xs (i + 2)) hm hlen) lm_L_M_compare f_M_compare rfl rfl ⟨by decide, by decide⟩ ⟨by decide, by decide⟩ hl.1 (Nat.le_of_ble_eq_true rfl) d_L_law_281 (fun r2 u1 H locs hp2 hP hD hS => ?_)
        obtain ⟨rfl, rfl⟩ := hp1
        obtain ⟨rfl, rfl⟩ := hp2
        refine lv_icmp_eq (pc := 284) (tgt := 338) hx hb d_L_law_284 (by decide) (fun _ => ?_) (fun hne => absurd (rfl) hne)
        refine lv_iinc (pc := 338) (k := 3) (v := nI (i + 6)) hx hb d_L_law_338 hl rfl (nI_i6 i) (by decide) rfl (fun ls hl => ?_)
        have hl : lv_has ls 4 [(3, .int (nI (i + 6))), (0, .ref (b)), (1, .ref (g 0)), (2, .ref (g2 0))] := hl
        refine lv_goto (pc := 341) (tgt := 18) hx hb d_L_law_341 (by decide) ?_
        exact ih (i + 6) n ts tp sg ln ds t2 tm sz wd wl tb _ _ _ (by omega) (lv_sub hl [1, 2, 3, 0] rfl) hP hD hS (by omega) hn3 hlen htp ht hm
      · refine lv_tableIn (pc := 33) (tgt := 289) (off := 256) hx hb d_L_law_33 (by decide) (by decide) (by decide) (by decide) ?_
        refine lv_aload_n (pc := 289) hx hb d_L_law_289 rfl (lv_at hl 1 rfl) ?_
        refine lv_aload_n (pc := 290) hx hb d_L_law_290 rfl (lv_at hl 0 rfl) ?_
        refine lv_iload_n (pc := 291) hx hb d_L_law_291 rfl (lv_at hl 3 rfl) ?_
        refine lv_iconst (pc := 292) (v := nI 1) hx hb d_L_law_292 (by decide) ?_
        refine lv_iadd (pc := 293) hx hb d_L_law_293 ?_
        refine g_top (y := nI (i + 1)) (nI_add _ _) ?_
        refine va_sld (pc := 294) hx hb hX hbl hbA hS (vp_in_nI (n := i + 1) (by omega) (by omega)) d_L_law_294 ?_
        refine g_top (y := xs (i + 1)) (congrArg xs (nI_clamp (by omega))) ?_
        refine l_callx (pc := 295) (as := [.int (xs (i + 1))]) (rest := []) ⟨hx, hb, hml, hown, hts⟩ hK hA hP hD hS (c_X_apart l D g k tp ds (f := fun i => sm (t2 i)) (xs (i + 1)) ht hlen hn3 (l_fx htp)) lm_L_X_apart f_X_apart rfl rfl ⟨by decide, by decide⟩ ⟨by decide, by decide⟩ hl.1 (Nat.le_of_ble_eq_true rfl) d_L_law_295 (fun r1 u1 H locs hp1 hP hD hS => ?_)
        refine lv_aload_n (pc := 298) hx hb d_L_law_298 rfl (lv_at hl 2 rfl) ?_
        refine lv_aload_n (pc := 299) hx hb d_L_law_299 rfl (lv_at hl 0 rfl) ?_
        refine lv_iload_n (pc := 300) hx hb d_L_law_300 rfl (lv_at hl 3 rfl) ?_
        refine lv_iconst (pc := 301) (v := nI 1) hx hb d_L_law_301 (by decide) ?_
        refine lv_iadd (pc := 302) hx hb d_L_law_302 ?_
        refine g_top (y := nI (i + 1)) (nI_add _ _) ?_
        refine va_sld (pc := 303) hx hb hX hbl hbA hS (vp_in_nI (n := i + 1) (by omega) (by omega)) d_L_law_303 ?_
        refine g_top (y := xs (i + 1)) (congrArg xs (nI_clamp (by omega))) ?_
        refine l_callm (pc := 304) (as := [.int (xs (i + 1))]) (rest := [.int r1]) ⟨hx, hb, hml, hown, hts⟩ hK hA hP hD hS (c_M_apart l D g2 k2 t2 tm sz wd wl tb (xs (i + 1)) hm hlen hn3 (l_fm htp)) lm_L_M_apart f_M_apart rfl rfl ⟨by decide, by decide⟩ ⟨by decide, by decide⟩ hl.1 (Nat.le_of_ble_eq_true rfl) d_L_law_304 (fun r2 u1 H locs hp2 hP hD hS => ?_)
        rcases hp1 with ⟨ha, rfl, rfl⟩ | ⟨T, ha, rfl, tp1, sg1, ln1, ds1, rfl, hk1⟩
        · rcases hp2 with ⟨hb2, rfl, rfl⟩ | ⟨T, hb2, rfl, tm1, sz1, wd1, wl1, tb1, rfl, hk2⟩
          · refine lv_icmp_eq (pc := 307) (tgt := 338) hx hb d_L_law_307 (by decide) (fun _ => ?_) (fun hne => absurd (rfl) hne)
            refine lv_iinc (pc := 338) (k := 3) (v := nI (i + 6)) hx hb d_L_law_338 hl rfl (nI_i6 i) (by decide) rfl (fun ls hl => ?_)
            have hl : lv_has ls 4 [(3, .int (nI (i + 6))), (0, .ref (b)), (1, .ref (g 0)), (2, .ref (g2 0))] := hl
            refine lv_goto (pc := 341) (tgt := 18) hx hb d_L_law_341 (by decide) ?_
            exact ih (i + 6) n ts tp sg ln ds t2 tm sz wd wl tb _ _ _ (by omega) (lv_sub hl [1, 2, 3, 0] rfl) hP hD hS (by omega) hn3 hlen htp ht hm
          · rw [ha] at hb2; cases hb2
        · rcases hp2 with ⟨hb2, rfl, rfl⟩ | ⟨T2, hb2, rfl, tm1, sz1, wd1, wl1, tb1, rfl, hk2⟩
          · rw [ha] at hb2; cases hb2
          · rw [ha] at hb2
            cases hb2
            refine lv_icmp_eq (pc := 307) (tgt := 338) hx hb d_L_law_307 (by decide) (fun _ => ?_) (fun hne => absurd (rfl) hne)
            refine lv_iinc (pc := 338) (k := 3) (v := nI (i + 6)) hx hb d_L_law_338 hl rfl (nI_i6 i) (by decide) rfl (fun ls hl => ?_)
            have hl : lv_has ls 4 [(3, .int (nI (i + 6))), (0, .ref (b)), (1, .ref (g 0)), (2, .ref (g2 0))] := hl
            refine lv_goto (pc := 341) (tgt := 18) hx hb d_L_law_341 (by decide) ?_
            exact ih (i + 6) 0 ts tp1 sg1 ln1 ds1 t2 tm1 sz1 wd1 wl1 tb1 _ _ _ (by omega) (lv_sub hl [1, 2, 3, 0] rfl) hP hD hS (by omega) (Nat.zero_le _) hlen l_tp0 hk1 hk2
      · refine lv_tableIn (pc := 33) (tgt := 312) (off := 279) hx hb d_L_law_33 (by decide) (by decide) (by decide) (by decide) ?_
        refine lv_aload_n (pc := 312) hx hb d_L_law_312 rfl (lv_at hl 1 rfl) ?_
        refine l_callx (pc := 313) (as := []) (rest := []) ⟨hx, hb, hml, hown, hts⟩ hK hA hP hD hS (c_X_nearest l D g k tp ds (f := fun i => sm (t2 i)) ht hlen hn3 (l_fx htp)) lm_L_X_nearest f_X_nearest rfl rfl ⟨by decide, by decide⟩ ⟨by decide, by decide⟩ hl.1 (Nat.le_of_ble_eq_true rfl) d_L_law_313 (fun r1 u1 H locs hp1 hP hD hS => ?_)
        refine lv_aload_n (pc := 316) hx hb d_L_law_316 rfl (lv_at hl 2 rfl) ?_
        refine l_callm (pc := 317) (as := []) (rest := [.int r1]) ⟨hx, hb, hml, hown, hts⟩ hK hA hP hD hS (c_M_nearest l D g2 k2 t2 tm sz wd wl tb hm hlen hn3 (l_fm htp)) lm_L_M_nearest f_M_nearest rfl rfl ⟨by decide, by decide⟩ ⟨by decide, by decide⟩ hl.1 (Nat.le_of_ble_eq_true rfl) d_L_law_317 (fun r2 u1 H locs hp2 hP hD hS => ?_)
        obtain ⟨rfl, tp1, sg1, ln1, ds1, rfl, hk1⟩ := hp1
        obtain ⟨rfl, tm1, sz1, wd1, wl1, tb1, rfl, hk2⟩ := hp2
        refine lv_icmp_eq (pc := 320) (tgt := 338) hx hb d_L_law_320 (by decide) (fun _ => ?_) (fun hne => absurd (by rw [nbs_eq (fun q V hV => lev_le (ht q V hV).1 (stm_le _ _))]) hne)
        refine lv_iinc (pc := 338) (k := 3) (v := nI (i + 6)) hx hb d_L_law_338 hl rfl (nI_i6 i) (by decide) rfl (fun ls hl => ?_)
        have hl : lv_has ls 4 [(3, .int (nI (i + 6))), (0, .ref (b)), (1, .ref (g 0)), (2, .ref (g2 0))] := hl
        refine lv_goto (pc := 341) (tgt := 18) hx hb d_L_law_341 (by decide) ?_
        exact ih (i + 6) 0 ts tp1 sg1 ln1 ds1 t2 tm1 sz1 wd1 wl1 tb1 _ _ _ (by omega) (lv_sub hl [1, 2, 3, 0] rfl) hP hD hS (by omega) (Nat.zero_le _) hlen l_tp0 hk1 hk2
      · refine lv_tableIn (pc := 33) (tgt := 325) (off := 292) hx hb d_L_law_33 (by decide) (by decide) (by decide) (by decide) ?_
        refine lv_aload_n (pc := 325) hx hb d_L_law_325 rfl (lv_at hl 1 rfl) ?_
        refine l_callx (pc := 326) (as := []) (rest := []) ⟨hx, hb, hml, hown, hts⟩ hK hA hP hD hS (c_X_plain l D g k tp ds (f := fun i => sm (t2 i)) ht hlen hn3 (l_fx htp)) lm_L_X_plain f_X_plain rfl rfl ⟨by decide, by decide⟩ ⟨by decide, by decide⟩ hl.1 (Nat.le_of_ble_eq_true rfl) d_L_law_326 (fun r1 u1 H locs hp1 hP hD hS => ?_)
        refine lv_aload_n (pc := 329) hx hb d_L_law_329 rfl (lv_at hl 2 rfl) ?_
        refine l_callm (pc := 330) (as := []) (rest := [.int r1]) ⟨hx, hb, hml, hown, hts⟩ hK hA hP hD hS (c_M_plain l D g2 k2 t2 tm sz wd wl tb hm hlen hn3 (l_fm htp)) lm_L_M_plain f_M_plain rfl rfl ⟨by decide, by decide⟩ ⟨by decide, by decide⟩ hl.1 (Nat.le_of_ble_eq_true rfl) d_L_law_330 (fun r2 u1 H locs hp2 hP hD hS => ?_)
        rcases hp1 with ⟨ha, ha2, rfl, sg1, ln1, rfl, hk1⟩ | ⟨ha, rfl, rfl⟩
        · rcases hp2 with ⟨hb2, hb3, rfl, tm1, sz1, wd1, wl1, rfl, hk2⟩ | ⟨hb2, rfl, wd1, wl1, rfl⟩
          · have hle : (ts ++ [pln (fun i => sm (t2 i)) n]).length = ts.length + 1 := by rw [List.length_append, List.length_singleton]
            rw [← hle] at hP hD
            refine lv_icmp_eq (pc := 333) (tgt := 338) hx hb d_L_law_333 (by decide) (fun _ => ?_) (fun hne => absurd (rfl) hne)
            refine lv_iinc (pc := 338) (k := 3) (v := nI (i + 6)) hx hb d_L_law_338 hl rfl (nI_i6 i) (by decide) rfl (fun ls hl => ?_)
            have hl : lv_has ls 4 [(3, .int (nI (i + 6))), (0, .ref (b)), (1, .ref (g 0)), (2, .ref (g2 0))] := hl
            refine lv_goto (pc := 341) (tgt := 18) hx hb d_L_law_341 (by decide) ?_
            exact ih (i + 6) 0 (ts ++ [pln (fun i => sm (t2 i)) n]) tp sg1 ln1 ds t2 tm1 sz1 wd1 wl1 tb _ _ _ (by omega) (lv_sub hl [1, 2, 3, 0] rfl) hP hD hS (by omega) (Nat.zero_le _) (by rw [hle]; omega) l_tp0 (tok_push ht hk1) (tok_push hm hk2)
          · exact absurd ⟨ha, ha2⟩ hb2
        · rcases hp2 with ⟨hb2, hb3, rfl, tm1, sz1, wd1, wl1, rfl, hk2⟩ | ⟨hb2, rfl, wd1, wl1, rfl⟩
          · exact absurd ⟨hb2, hb3⟩ ha
          · refine lv_icmp_eq (pc := 333) (tgt := 338) hx hb d_L_law_333 (by decide) (fun _ => ?_) (fun hne => absurd (rfl) hne)
            refine lv_iinc (pc := 338) (k := 3) (v := nI (i + 6)) hx hb d_L_law_338 hl rfl (nI_i6 i) (by decide) rfl (fun ls hl => ?_)
            have hl : lv_has ls 4 [(3, .int (nI (i + 6))), (0, .ref (b)), (1, .ref (g 0)), (2, .ref (g2 0))] := hl
            refine lv_goto (pc := 341) (tgt := 18) hx hb d_L_law_341 (by decide) ?_
            exact ih (i + 6) 0 ts tp sg ln ds t2 tm sz wd1 wl1 tb _ _ _ (by omega) (lv_sub hl [1, 2, 3, 0] rfl) hP hD hS (by omega) (Nat.zero_le _) hlen l_tp0 ht hm
      · refine lv_tableOut (pc := 33) (tgt := 338) hx hb d_L_law_33 (Or.inr (by rw [nI_toInt (by omega)]; omega)) (by decide) ?_
        refine lv_iinc (pc := 338) (k := 3) (v := nI (i + 6)) hx hb d_L_law_338 hl rfl (nI_i6 i) (by decide) rfl (fun ls hl => ?_)
        have hl : lv_has ls 4 [(3, .int (nI (i + 6))), (0, .ref (b)), (1, .ref (g 0)), (2, .ref (g2 0))] := hl
        refine lv_goto (pc := 341) (tgt := 18) hx hb d_L_law_341 (by decide) ?_
        exact ih (i + 6) n ts tp sg ln ds t2 tm sz wd wl tb _ _ _ (by omega) (lv_sub hl [1, 2, 3, 0] rfl) hP hD hS (by omega) hn3 hlen htp ht hm
