theorem cpy_wrt {tp sg ln : Nat → Int32} {a b j : Nat} : wrt sg ln (va_cpy tp sg a (24 * j) (min (b - a) 24)) (upd ln j (nI (min (b - a) 24))) j (pln (fun i => tp (a + i)) (b - a)) := by
  refine ⟨pln_le _ _, rfl, fun i hi => ?_, fun q hq => ?_⟩
  · have hi : i < min (b - a) 24 := hi
    rw [pk_cpy_in (by omega) (by omega)]
    show tp _ = tp _
    congr 1
    omega
  · exact pk_cpy_out (by omega)
set_option maxHeartbeats 4000000 in
set_option maxRecDepth 100000 in
theorem c_X_writeSigns (l : Launch) (D : va_G) (g : Nat → Nat) (k : Nat → ClassId) (tp : Nat → Int32) (tl : Int32) (sg ln : Nat → Int32) (tc : Int32) (ds : Nat → Int32) {j a b : Nat} (hj : j < 151) (hab : a ≤ b) (hb0 : b ≤ 300) (hby : ∀ i, a ≤ i → i < b → by_ok (tp i)) : gMv l y_X_writeSigns (gW y_X_writeSigns b_X_writeSigns 5 none) (gR 2) D (xT k) (xw g k) [.ref (g 0), .int (nI j), .int (nI a), .int (nI b)] (tp, tl, sg, ln, tc, ds) (fun u => ∃ sg1 ln1, u = (tp, tl, sg1, ln1, tc, ds) ∧ wrt sg ln sg1 ln1 j (pln (fun i => tp (a + i)) (b - a))) := by
  refine g_startv (by decide) (Nat.le_of_ble_eq_true rfl) ?_
  intro p ev s m args below meth cd A Q ls hC hQ hl hw
  have hx := hC.1.1
  have hb := hC.1.2.1
  have hl : lv_has ls 5 [(0, .ref (g 0)), (1, .int (nI j)), (2, .int (nI a)), (3, .int (nI b))] := hl
  refine lv_iload_n (pc := 0) hx hb d_X_writeSigns_0 rfl (lv_at hl 3 rfl) ?_
  refine lv_iload_n (pc := 1) hx hb d_X_writeSigns_1 rfl (lv_at hl 2 rfl) ?_
  refine lv_isub (pc := 2) hx hb d_X_writeSigns_2 ?_
  refine g_top (y := nI (b - a)) (pk_sub (by omega)) ?_
  refine lv_bipush (pc := 3) (v := nI 24) hx hb d_X_writeSigns_3 (by decide) ?_
  refine va_mmin (pc := 5) hx hb (hC.1.2.2.1.trans hl.1.symm) hC.1.2.2.2.1 (hC.1.2.2.2.2 _ lm_X_Math_min) (hC.1.2.2.2.2 _ i_Math_min_static) (hC.1.2.2.2.2 _ i_Math_init) (hC.1.2.2.2.2 _ i_Math_min_code) (by decide) (Nat.le_of_ble_eq_true rfl) (Nat.zero_le _) (Nat.zero_le _) d_X_writeSigns_5 ?_
  refine g_top (y := nI (min (b - a) 24)) (mn_eq (by omega) (by omega)) ?_
  refine lv_istore (pc := 8) hx hb d_X_writeSigns_8 hl (by decide) rfl (fun ls hl => ?_)
  have hl : lv_has ls 5 [(4, .int (nI (min (b - a) 24))), (0, .ref (g 0)), (1, .int (nI j)), (2, .int (nI a)), (3, .int (nI b))] := hl
  refine lv_aload_n (pc := 10) hx hb d_X_writeSigns_10 rfl (lv_at hl 1 rfl) ?_
  refine xg_tp (pc := 11) hC hw d_X_writeSigns_11 ?_
  refine lv_iload_n (pc := 14) hx hb d_X_writeSigns_14 rfl (lv_at hl 3 rfl) ?_
  refine lv_aload_n (pc := 15) hx hb d_X_writeSigns_15 rfl (lv_at hl 1 rfl) ?_
  refine xg_sg (pc := 16) hC hw d_X_writeSigns_16 ?_
  refine lv_iload_n (pc := 19) hx hb d_X_writeSigns_19 rfl (lv_at hl 2 rfl) ?_
  refine lv_bipush (pc := 20) (v := nI 24) hx hb d_X_writeSigns_20 (by decide) ?_
  refine lv_imul (pc := 22) hx hb d_X_writeSigns_22 ?_
  refine g_top (y := nI (24 * j)) ((pk_mul _ _).trans (congrArg nI (Nat.mul_comm _ _))) ?_
  refine lv_iload (pc := 23) hx hb d_X_writeSigns_23 (lv_at hl 0 rfl) ?_
  have q1 : (nI a).toNatClampNeg = a := nI_clamp (by omega)
  have q2 : (nI (24 * j)).toNatClampNeg = 24 * j := nI_clamp (by omega)
  have q3 : (nI (min (b - a) 24)).toNatClampNeg = min (b - a) 24 := nI_clamp (by omega)
  refine va_copyi (pc := 25) (D := D) (cl := classes) (ws := xw g k (tp, tl, sg, ln, tc, ds)) (ty := .byte) hx hb (hC.1.2.2.1.trans hl.1.symm) hC.1.2.2.2.1 (hC.1.2.2.2.2 _ lm_X_System_arraycopy) (hC.1.2.2.2.2 _ i_arraycopy_native) (hC.1.2.2.2.2 _ i_arraycopy_static) (hC.1.2.2.2.2 _ i_System_init) hC.2.2.1 hw.1 hw.2.1 hw.2.2 1 2 0 1 rfl rfl rfl rfl rfl (nI_pos (by omega)) (nI_pos (by omega)) (nI_pos (by omega)) (by rw [q1, q3]; omega) (by rw [q2, q3]; omega) (fun i hi => by rw [q3] at hi; rw [q1]; exact by_fit (hby _ (by omega) (by omega))) (by decide) (by decide) d_X_writeSigns_25 (fun H locs hP hD hS => ?_)
  rw [q1, q2, q3] at hP hD
  have hw : gH D (xw g k) A s.heap (tp, tl, (va_cpy tp sg a (24 * j) (min (b - a) 24)), ln, tc, ds) H locs := ⟨hP, hD, hS⟩
  refine lv_aload_n (pc := 28) hx hb d_X_writeSigns_28 rfl (lv_at hl 1 rfl) ?_
  refine xg_ln (pc := 29) hC hw d_X_writeSigns_29 ?_
  refine lv_iload_n (pc := 32) hx hb d_X_writeSigns_32 rfl (lv_at hl 2 rfl) ?_
  refine lv_iload (pc := 33) hx hb d_X_writeSigns_33 (lv_at hl 0 rfl) ?_
  refine xs_ln (pc := 35) (i := j) (x := nI (min (b - a) 24)) (by omega) hC hw d_X_writeSigns_35 (fun H locs hw => ?_)
  exact hQ _ _ _ _ _ hw (⟨_, _, rfl, cpy_wrt⟩) d_X_writeSigns_36
theorem stm_ies {tp : Nat → Int32} {a b : Nat} (h5 : 5 ≤ b - a) (h : tp (b - 3) = 105 ∧ tp (b - 2) = 101 ∧ tp (b - 1) = 115) : stm (fun i => tp (a + i)) (b - a) = pln (fun i => if i = b - a - 3 then 121 else tp (a + i)) (b - a - 2) := by
  unfold stm
  rw [if_pos]
  unfold ies
  rw [decide_eq_true_eq]
  dsimp only
  rw [show a + (b - a - 1) = b - 1 by omega, show a + (b - a - 2) = b - 2 by omega, show a + (b - a - 3) = b - 3 by omega]
  exact ⟨h5, h.2.2, h.2.1, h.1⟩
theorem no_ies {tp : Nat → Int32} {a b : Nat} (hab : a ≤ b) (h : ¬ (5 ≤ b - a ∧ tp (b - 3) = 105 ∧ tp (b - 2) = 101 ∧ tp (b - 1) = 115)) : ¬ ies (fun i => tp (a + i)) (b - a) = true := by
  unfold ies
  rw [decide_eq_true_eq]
  dsimp only
  intro ⟨q1, q2, q3, q4⟩
  rw [show a + (b - a - 1) = b - 1 by omega] at q2
  rw [show a + (b - a - 2) = b - 2 by omega] at q3
  rw [show a + (b - a - 3) = b - 3 by omega] at q4
  exact h ⟨q1, q4, q3, q2⟩
theorem stm_los {tp : Nat → Int32} {a b : Nat} (hab : a ≤ b) (hi : ¬ ies (fun i => tp (a + i)) (b - a) = true) (h4 : 4 ≤ b - a) (h : tp (b - 1) = 115 ∧ tp (b - 2) ≠ 115 ∧ tp (b - 2) ≠ 117) : stm (fun i => tp (a + i)) (b - a) = pln (fun i => tp (a + i)) (b - a - 1) := by
  unfold stm
  rw [if_neg hi, if_pos]
  unfold los
  rw [decide_eq_true_eq]
  dsimp only
  rw [show a + (b - a - 1) = b - 1 by omega, show a + (b - a - 2) = b - 2 by omega]
  exact ⟨h4, h⟩
theorem stm_pl {tp : Nat → Int32} {a b : Nat} (hab : a ≤ b) (hi : ¬ ies (fun i => tp (a + i)) (b - a) = true) (h : ¬ (4 ≤ b - a ∧ tp (b - 1) = 115 ∧ tp (b - 2) ≠ 115 ∧ tp (b - 2) ≠ 117)) : stm (fun i => tp (a + i)) (b - a) = pln (fun i => tp (a + i)) (b - a) := by
  unfold stm
  rw [if_neg hi, if_neg]
  unfold los
  rw [decide_eq_true_eq]
  dsimp only
  intro ⟨q1, q2, q3⟩
  rw [show a + (b - a - 1) = b - 1 by omega] at q2
  rw [show a + (b - a - 2) = b - 2 by omega] at q3
  exact h ⟨q1, q2, q3⟩
theorem bI_1 {x : Bool} (h : ¬ bI x = 0) : x = true := by
  cases x
  · exact absurd rfl h
  · rfl
theorem bI_0 {x : Bool} (h : bI x = 0) : x = false := by
  cases x
  · rfl
  · exact absurd h (by decide)
set_option maxHeartbeats 4000000 in
set_option maxRecDepth 100000 in
theorem c_X_writeTerm (l : Launch) (D : va_G) (g : Nat → Nat) (k : Nat → ClassId) (tp : Nat → Int32) (tl : Int32) (sg ln : Nat → Int32) (tc : Int32) (ds : Nat → Int32) {j a b : Nat} (hj : j < 151) (hab : a ≤ b) (hb0 : b ≤ 300) (hby : ∀ i, a ≤ i → i < b → by_ok (tp i)) : gMv l y_X_writeTerm (gW y_X_writeTerm b_X_writeTerm 5 none) (gR 3) D (xT k) (xw g k) [.ref (g 0), .int (nI j), .int (nI a), .int (nI b)] (tp, tl, sg, ln, tc, ds) (fun u => ∃ tp1 sg1 ln1, u = (tp1, tl, sg1, ln1, tc, ds) ∧ wrt sg ln sg1 ln1 j (stm (fun i => tp (a + i)) (b - a)) ∧ ∀ i, (i < a ∨ b ≤ i) → tp1 i = tp i) := by
  refine g_startv (by decide) (Nat.le_of_ble_eq_true rfl) ?_
  intro p ev s m args below meth cd A Q ls hC hQ hl hw
  have hx := hC.1.1
  have hb := hC.1.2.1
  have hl : lv_has ls 5 [(0, .ref (g 0)), (1, .int (nI j)), (2, .int (nI a)), (3, .int (nI b))] := hl
  refine lv_iload_n (pc := 0) hx hb d_X_writeTerm_0 rfl (lv_at hl 3 rfl) ?_
  refine lv_iload_n (pc := 1) hx hb d_X_writeTerm_1 rfl (lv_at hl 2 rfl) ?_
  refine lv_isub (pc := 2) hx hb d_X_writeTerm_2 ?_
  refine g_top (y := nI (b - a)) (pk_sub (by omega)) ?_
  refine lv_istore (pc := 3) hx hb d_X_writeTerm_3 hl (by decide) rfl (fun ls hl => ?_)
  have hl : lv_has ls 5 [(4, .int (nI (b - a))), (0, .ref (g 0)), (1, .int (nI j)), (2, .int (nI a)), (3, .int (nI b))] := hl
  refine lv_iload (pc := 5) hx hb d_X_writeTerm_5 (lv_at hl 0 rfl) ?_
  refine lv_iconst (pc := 7) (v := nI 5) hx hb d_X_writeTerm_7 (by decide) ?_
  refine nc_lt (pc := 8) (tgt := 41) hx hb d_X_writeTerm_8 (by decide) (by omega) (by omega) (fun hc8 => ?_) (fun hc8 => ?_)
  · have hni : ¬ ies (fun i => tp (a + i)) (b - a) = true := no_ies hab (fun q => absurd q.1 (by omega))
    refine lv_iload (pc := 41) hx hb d_X_writeTerm_41 (lv_at hl 0 rfl) ?_
    refine lv_iconst (pc := 43) (v := nI 4) hx hb d_X_writeTerm_43 (by decide) ?_
    refine nc_lt (pc := 44) (tgt := 67) hx hb d_X_writeTerm_44 (by decide) (by omega) (by omega) (fun hc44 => ?_) (fun hc44 => ?_)
    · refine lv_aload_n (pc := 67) hx hb d_X_writeTerm_67 rfl (lv_at hl 1 rfl) ?_
      refine lv_iload_n (pc := 68) hx hb d_X_writeTerm_68 rfl (lv_at hl 2 rfl) ?_
      refine lv_iload_n (pc := 69) hx hb d_X_writeTerm_69 rfl (lv_at hl 3 rfl) ?_
      refine lv_iload_n (pc := 70) hx hb d_X_writeTerm_70 rfl (lv_at hl 4 rfl) ?_
      refine g_callv (pc := 71) (as := [.int (nI j), .int (nI a), .int (nI b)]) (rest := []) hC hw (c_X_writeSigns l D g k tp tl sg ln tc ds (j := j) (a := a) (b := b) hj (by omega) (by omega) (hby)) lm_X_writeSigns f_X_writeSigns rfl rfl rfl rfl ⟨by decide, by decide⟩ hl.1 (Nat.le_of_ble_eq_true rfl) d_X_writeTerm_71 (fun u1 H locs hp hw => ?_)
      obtain ⟨sg1, ln1, rfl, hwr⟩ := hp
      exact hQ _ _ _ _ _ hw (⟨tp, sg1, ln1, rfl, by rw [stm_pl hab hni (fun q => absurd q.1 (by omega))]; exact hwr, fun _ _ => rfl⟩) d_X_writeTerm_74
    · refine lv_aload_n (pc := 47) hx hb d_X_writeTerm_47 rfl (lv_at hl 1 rfl) ?_
      refine lv_iload_n (pc := 48) hx hb d_X_writeTerm_48 rfl (lv_at hl 4 rfl) ?_
      refine g_calli (pc := 49) (as := [.int (nI b)]) (rest := []) hC hw (c_X_endsWithLooseS l D g k tp tl sg ln tc ds (t := b) (by omega) hb0) lm_X_endsWithLooseS f_X_endsWithLooseS rfl rfl rfl rfl ⟨by decide, by decide⟩ hl.1 (Nat.le_of_ble_eq_true rfl) d_X_writeTerm_49 (fun r u1 H locs hp hw => ?_)
      obtain ⟨rfl, rfl⟩ := hp
      refine lv_if_eq (pc := 52) (tgt := 67) hx hb d_X_writeTerm_52 (by decide) (fun hc52 => ?_) (fun hc52 => ?_)
      · refine lv_aload_n (pc := 67) hx hb d_X_writeTerm_67 rfl (lv_at hl 1 rfl) ?_
        refine lv_iload_n (pc := 68) hx hb d_X_writeTerm_68 rfl (lv_at hl 2 rfl) ?_
        refine lv_iload_n (pc := 69) hx hb d_X_writeTerm_69 rfl (lv_at hl 3 rfl) ?_
        refine lv_iload_n (pc := 70) hx hb d_X_writeTerm_70 rfl (lv_at hl 4 rfl) ?_
        refine g_callv (pc := 71) (as := [.int (nI j), .int (nI a), .int (nI b)]) (rest := []) hC hw (c_X_writeSigns l D g k tp tl sg ln tc ds (j := j) (a := a) (b := b) hj (by omega) (by omega) (hby)) lm_X_writeSigns f_X_writeSigns rfl rfl rfl rfl ⟨by decide, by decide⟩ hl.1 (Nat.le_of_ble_eq_true rfl) d_X_writeTerm_71 (fun u1 H locs hp hw => ?_)
        obtain ⟨sg1, ln1, rfl, hwr⟩ := hp
        exact hQ _ _ _ _ _ hw (⟨tp, sg1, ln1, rfl, by rw [stm_pl hab hni (fun q => (of_decide_eq_false (bI_0 hc52)) q.2)]; exact hwr, fun _ _ => rfl⟩) d_X_writeTerm_74
      · have hy := of_decide_eq_true (bI_1 hc52)
        refine lv_aload_n (pc := 55) hx hb d_X_writeTerm_55 rfl (lv_at hl 1 rfl) ?_
        refine lv_iload_n (pc := 56) hx hb d_X_writeTerm_56 rfl (lv_at hl 2 rfl) ?_
        refine lv_iload_n (pc := 57) hx hb d_X_writeTerm_57 rfl (lv_at hl 3 rfl) ?_
        refine lv_iload_n (pc := 58) hx hb d_X_writeTerm_58 rfl (lv_at hl 4 rfl) ?_
        refine lv_iconst (pc := 59) (v := nI 1) hx hb d_X_writeTerm_59 (by decide) ?_
        refine lv_isub (pc := 60) hx hb d_X_writeTerm_60 ?_
        refine g_top (y := nI (b - 1)) (pk_sub (by omega)) ?_
        refine g_callv (pc := 61) (as := [.int (nI j), .int (nI a), .int (nI (b - 1))]) (rest := []) hC hw (c_X_writeSigns l D g k tp tl sg ln tc ds (j := j) (a := a) (b := b - 1) hj (by omega) (by omega) (fun i h1 h2 => hby i h1 (by omega))) lm_X_writeSigns f_X_writeSigns rfl rfl rfl rfl ⟨by decide, by decide⟩ hl.1 (Nat.le_of_ble_eq_true rfl) d_X_writeTerm_61 (fun u1 H locs hp hw => ?_)
        obtain ⟨sg1, ln1, rfl, hwr⟩ := hp
        refine lv_goto (pc := 64) (tgt := 74) hx hb d_X_writeTerm_64 (by decide) ?_
        exact hQ _ _ _ _ _ hw (⟨tp, sg1, ln1, rfl, by rw [stm_los hab hni (by omega) hy, show b - a - 1 = b - 1 - a by omega]; exact hwr, fun _ _ => rfl⟩) d_X_writeTerm_74
  · refine lv_aload_n (pc := 11) hx hb d_X_writeTerm_11 rfl (lv_at hl 1 rfl) ?_
    refine lv_iload_n (pc := 12) hx hb d_X_writeTerm_12 rfl (lv_at hl 4 rfl) ?_
    refine g_calli (pc := 13) (as := [.int (nI b)]) (rest := []) hC hw (c_X_endsWithIes l D g k tp tl sg ln tc ds (t := b) (by omega) hb0) lm_X_endsWithIes f_X_endsWithIes rfl rfl rfl rfl ⟨by decide, by decide⟩ hl.1 (Nat.le_of_ble_eq_true rfl) d_X_writeTerm_13 (fun r u1 H locs hp hw => ?_)
    obtain ⟨rfl, rfl⟩ := hp
    refine lv_if_eq (pc := 16) (tgt := 41) hx hb d_X_writeTerm_16 (by decide) (fun hc16 => ?_) (fun hc16 => ?_)
    · have hni : ¬ ies (fun i => tp (a + i)) (b - a) = true := no_ies hab (fun q => (of_decide_eq_false (bI_0 hc16)) q.2)
      refine lv_iload (pc := 41) hx hb d_X_writeTerm_41 (lv_at hl 0 rfl) ?_
      refine lv_iconst (pc := 43) (v := nI 4) hx hb d_X_writeTerm_43 (by decide) ?_
      refine nc_lt (pc := 44) (tgt := 67) hx hb d_X_writeTerm_44 (by decide) (by omega) (by omega) (fun hc44 => ?_) (fun hc44 => ?_)
      · refine lv_aload_n (pc := 67) hx hb d_X_writeTerm_67 rfl (lv_at hl 1 rfl) ?_
        refine lv_iload_n (pc := 68) hx hb d_X_writeTerm_68 rfl (lv_at hl 2 rfl) ?_
        refine lv_iload_n (pc := 69) hx hb d_X_writeTerm_69 rfl (lv_at hl 3 rfl) ?_
        refine lv_iload_n (pc := 70) hx hb d_X_writeTerm_70 rfl (lv_at hl 4 rfl) ?_
        refine g_callv (pc := 71) (as := [.int (nI j), .int (nI a), .int (nI b)]) (rest := []) hC hw (c_X_writeSigns l D g k tp tl sg ln tc ds (j := j) (a := a) (b := b) hj (by omega) (by omega) (hby)) lm_X_writeSigns f_X_writeSigns rfl rfl rfl rfl ⟨by decide, by decide⟩ hl.1 (Nat.le_of_ble_eq_true rfl) d_X_writeTerm_71 (fun u1 H locs hp hw => ?_)
        obtain ⟨sg1, ln1, rfl, hwr⟩ := hp
        exact hQ _ _ _ _ _ hw (⟨tp, sg1, ln1, rfl, by rw [stm_pl hab hni (fun q => absurd q.1 (by omega))]; exact hwr, fun _ _ => rfl⟩) d_X_writeTerm_74
      · refine lv_aload_n (pc := 47) hx hb d_X_writeTerm_47 rfl (lv_at hl 1 rfl) ?_
        refine lv_iload_n (pc := 48) hx hb d_X_writeTerm_48 rfl (lv_at hl 4 rfl) ?_
        refine g_calli (pc := 49) (as := [.int (nI b)]) (rest := []) hC hw (c_X_endsWithLooseS l D g k tp tl sg ln tc ds (t := b) (by omega) hb0) lm_X_endsWithLooseS f_X_endsWithLooseS rfl rfl rfl rfl ⟨by decide, by decide⟩ hl.1 (Nat.le_of_ble_eq_true rfl) d_X_writeTerm_49 (fun r u1 H locs hp hw => ?_)
        obtain ⟨rfl, rfl⟩ := hp
        refine lv_if_eq (pc := 52) (tgt := 67) hx hb d_X_writeTerm_52 (by decide) (fun hc52 => ?_) (fun hc52 => ?_)
        · refine lv_aload_n (pc := 67) hx hb d_X_writeTerm_67 rfl (lv_at hl 1 rfl) ?_
          refine lv_iload_n (pc := 68) hx hb d_X_writeTerm_68 rfl (lv_at hl 2 rfl) ?_
          refine lv_iload_n (pc := 69) hx hb d_X_writeTerm_69 rfl (lv_at hl 3 rfl) ?_
          refine lv_iload_n (pc := 70) hx hb d_X_writeTerm_70 rfl (lv_at hl 4 rfl) ?_
          refine g_callv (pc := 71) (as := [.int (nI j), .int (nI a), .int (nI b)]) (rest := []) hC hw (c_X_writeSigns l D g k tp tl sg ln tc ds (j := j) (a := a) (b := b) hj (by omega) (by omega) (hby)) lm_X_writeSigns f_X_writeSigns rfl rfl rfl rfl ⟨by decide, by decide⟩ hl.1 (Nat.le_of_ble_eq_true rfl) d_X_writeTerm_71 (fun u1 H locs hp hw => ?_)
          obtain ⟨sg1, ln1, rfl, hwr⟩ := hp
          exact hQ _ _ _ _ _ hw (⟨tp, sg1, ln1, rfl, by rw [stm_pl hab hni (fun q => (of_decide_eq_false (bI_0 hc52)) q.2)]; exact hwr, fun _ _ => rfl⟩) d_X_writeTerm_74
        · have hy := of_decide_eq_true (bI_1 hc52)
          refine lv_aload_n (pc := 55) hx hb d_X_writeTerm_55 rfl (lv_at hl 1 rfl) ?_
          refine lv_iload_n (pc := 56) hx hb d_X_writeTerm_56 rfl (lv_at hl 2 rfl) ?_
          refine lv_iload_n (pc := 57) hx hb d_X_writeTerm_57 rfl (lv_at hl 3 rfl) ?_
          refine lv_iload_n (pc := 58) hx hb d_X_writeTerm_58 rfl (lv_at hl 4 rfl) ?_
          refine lv_iconst (pc := 59) (v := nI 1) hx hb d_X_writeTerm_59 (by decide) ?_
          refine lv_isub (pc := 60) hx hb d_X_writeTerm_60 ?_
          refine g_top (y := nI (b - 1)) (pk_sub (by omega)) ?_
          refine g_callv (pc := 61) (as := [.int (nI j), .int (nI a), .int (nI (b - 1))]) (rest := []) hC hw (c_X_writeSigns l D g k tp tl sg ln tc ds (j := j) (a := a) (b := b - 1) hj (by omega) (by omega) (fun i h1 h2 => hby i h1 (by omega))) lm_X_writeSigns f_X_writeSigns rfl rfl rfl rfl ⟨by decide, by decide⟩ hl.1 (Nat.le_of_ble_eq_true rfl) d_X_writeTerm_61 (fun u1 H locs hp hw => ?_)
          obtain ⟨sg1, ln1, rfl, hwr⟩ := hp
          refine lv_goto (pc := 64) (tgt := 74) hx hb d_X_writeTerm_64 (by decide) ?_
          exact hQ _ _ _ _ _ hw (⟨tp, sg1, ln1, rfl, by rw [stm_los hab hni (by omega) hy, show b - a - 1 = b - 1 - a by omega]; exact hwr, fun _ _ => rfl⟩) d_X_writeTerm_74
    · have hy := of_decide_eq_true (bI_1 hc16)
      refine lv_aload_n (pc := 19) hx hb d_X_writeTerm_19 rfl (lv_at hl 1 rfl) ?_
      refine xg_tp (pc := 20) hC hw d_X_writeTerm_20 ?_
      refine lv_iload_n (pc := 23) hx hb d_X_writeTerm_23 rfl (lv_at hl 4 rfl) ?_
      refine lv_iconst (pc := 24) (v := nI 3) hx hb d_X_writeTerm_24 (by decide) ?_
      refine lv_isub (pc := 25) hx hb d_X_writeTerm_25 ?_
      refine g_top (y := nI (b - 3)) (pk_sub (by omega)) ?_
      refine lv_bipush (pc := 26) (v := 121) hx hb d_X_writeTerm_26 (by decide) ?_
      refine xs_tp (pc := 28) (i := b - 3) (x := 121) (by omega) (by decide) hC hw d_X_writeTerm_28 (fun H locs hw => ?_)
      refine lv_aload_n (pc := 29) hx hb d_X_writeTerm_29 rfl (lv_at hl 1 rfl) ?_
      refine lv_iload_n (pc := 30) hx hb d_X_writeTerm_30 rfl (lv_at hl 2 rfl) ?_
      refine lv_iload_n (pc := 31) hx hb d_X_writeTerm_31 rfl (lv_at hl 3 rfl) ?_
      refine lv_iload_n (pc := 32) hx hb d_X_writeTerm_32 rfl (lv_at hl 4 rfl) ?_
      refine lv_iconst (pc := 33) (v := nI 2) hx hb d_X_writeTerm_33 (by decide) ?_
      refine lv_isub (pc := 34) hx hb d_X_writeTerm_34 ?_
      refine g_top (y := nI (b - 2)) (pk_sub (by omega)) ?_
      refine g_callv (pc := 35) (as := [.int (nI j), .int (nI a), .int (nI (b - 2))]) (rest := []) hC hw (c_X_writeSigns l D g k (upd tp (b - 3) 121) tl sg ln tc ds (j := j) (a := a) (b := b - 2) hj (by omega) (by omega) (fun i h1 h2 => by
          by_cases e : i = b - 3
          · rw [e, pk_us]; exact (by decide : (121 : Int32).toInt8.toInt32 = 121)
          · rw [pk_un e]; exact hby i h1 (by omega))) lm_X_writeSigns f_X_writeSigns rfl rfl rfl rfl ⟨by decide, by decide⟩ hl.1 (Nat.le_of_ble_eq_true rfl) d_X_writeTerm_35 (fun u1 H locs hp hw => ?_)
      obtain ⟨sg1, ln1, rfl, hwr⟩ := hp
      refine lv_goto (pc := 38) (tgt := 74) hx hb d_X_writeTerm_38 (by decide) ?_
      refine hQ _ _ _ _ _ hw ⟨_, sg1, ln1, rfl, ?_, fun i hi => pk_un (by omega)⟩ d_X_writeTerm_74
      rw [stm_ies (by omega) hy, show b - a - 2 = b - 2 - a by omega]
      refine wrt_ext hwr rfl (fun i hi => ?_)
      have hi : i < min (b - 2 - a) 24 := hi
      show upd tp (b - 3) 121 (a + i) = if i = b - a - 3 then 121 else tp (a + i)
      by_cases e : i = b - a - 3
      · rw [if_pos e, show a + i = b - 3 by omega, pk_us]
      · rw [if_neg e, pk_un (by omega)]
set_option maxHeartbeats 4000000 in
set_option maxRecDepth 100000 in
theorem c_X_addTerm (l : Launch) (D : va_G) (g : Nat → Nat) (k : Nat → ClassId) (tp : Nat → Int32) (tl : Int32) (sg ln : Nat → Int32) (ds : Nat → Int32) {c a b : Nat} (hcn : c < 150) (hab : a ≤ b) (hb0 : b ≤ 300) (hby : ∀ i, a ≤ i → i < b → by_ok (tp i)) : gMv l y_X_addTerm (gW y_X_addTerm b_X_addTerm 3 none) (gR 4) D (xT k) (xw g k) [.ref (g 0), .int (nI a), .int (nI b)] (tp, tl, sg, ln, (nI c), ds) (fun u => ∃ tp1 sg1 ln1, u = (tp1, tl, sg1, ln1, nI (c + 1), ds) ∧ wrt sg ln sg1 ln1 c (stm (fun i => tp (a + i)) (b - a)) ∧ ∀ i, (i < a ∨ b ≤ i) → tp1 i = tp i) := by
  refine g_startv (by decide) (Nat.le_of_ble_eq_true rfl) ?_
  intro p ev s m args below meth cd A Q ls hC hQ hl hw
  have hx := hC.1.1
  have hb := hC.1.2.1
  have hl : lv_has ls 3 [(0, .ref (g 0)), (1, .int (nI a)), (2, .int (nI b))] := hl
  refine lv_aload_n (pc := 0) hx hb d_X_addTerm_0 rfl (lv_at hl 0 rfl) ?_
  refine xg_tc (pc := 1) hC hw d_X_addTerm_1 ?_
  refine lv_sipush (pc := 4) (v := nI 150) hx hb d_X_addTerm_4 (by decide) ?_
  refine nc_ge (pc := 7) (tgt := 30) hx hb d_X_addTerm_7 (by decide) (by omega) (by omega) (fun hc7 => ?_) (fun hc7 => ?_)
  · omega
  · refine lv_aload_n (pc := 10) hx hb d_X_addTerm_10 rfl (lv_at hl 0 rfl) ?_
    refine lv_aload_n (pc := 11) hx hb d_X_addTerm_11 rfl (lv_at hl 0 rfl) ?_
    refine xg_tc (pc := 12) hC hw d_X_addTerm_12 ?_
    refine lv_iload_n (pc := 15) hx hb d_X_addTerm_15 rfl (lv_at hl 1 rfl) ?_
    refine lv_iload_n (pc := 16) hx hb d_X_addTerm_16 rfl (lv_at hl 2 rfl) ?_
    refine g_callv (pc := 17) (as := [.int (nI c), .int (nI a), .int (nI b)]) (rest := []) hC hw (c_X_writeTerm l D g k tp tl sg ln _ ds (j := c) (a := a) (b := b) (by omega) hab hb0 hby) lm_X_writeTerm f_X_writeTerm rfl rfl rfl rfl ⟨by decide, by decide⟩ hl.1 (Nat.le_of_ble_eq_true rfl) d_X_addTerm_17 (fun u1 H locs hp hw => ?_)
    obtain ⟨tp1, sg1, ln1, rfl, hwr, hfr⟩ := hp
    refine lv_aload_n (pc := 20) hx hb d_X_addTerm_20 rfl (lv_at hl 0 rfl) ?_
    refine lv_dup (pc := 21) hx hb d_X_addTerm_21 rfl ?_
    refine xg_tc (pc := 22) hC hw d_X_addTerm_22 ?_
    refine lv_iconst (pc := 25) (v := nI 1) hx hb d_X_addTerm_25 (by decide) ?_
    refine lv_iadd (pc := 26) hx hb d_X_addTerm_26 ?_
    refine g_top (y := nI (c + 1)) (nI_add _ _) ?_
    refine xp_tc (pc := 27) hC hw d_X_addTerm_27 (fun H locs hw => ?_)
    have hw : gH D (xw g k) A _ (tp1, tl, sg1, ln1, (nI (c + 1)), ds) H locs := hw
    exact hQ _ _ _ _ _ hw (⟨tp1, sg1, ln1, rfl, hwr, hfr⟩) d_X_addTerm_30
set_option maxHeartbeats 4000000 in
set_option maxRecDepth 100000 in
theorem c_X_tapeIsWord (l : Launch) (D : va_G) (g : Nat → Nat) (k : Nat → ClassId) (tp : Nat → Int32) (sg ln : Nat → Int32) (tc : Int32) (ds : Nat → Int32) {n : Nat} (h : n ≤ 300) : gMi l y_X_tapeIsWord (gW y_X_tapeIsWord b_X_tapeIsWord 2 (some .boolean)) (gR 1) D (xT k) (xw g k) [.ref (g 0)] (tp, (nI n), sg, ln, tc, ds) (fun r u => r = bI (isW tp n) ∧ u = (tp, nI n, sg, ln, tc, ds)) := by
  refine g_starti (by decide) (Nat.le_of_ble_eq_true rfl) ?_
  intro p ev s m args below meth cd A Q ls hC hQ hl hw
  have hx := hC.1.1
  have hb := hC.1.2.1
  have hl : lv_has ls 2 [(0, .ref (g 0))] := hl
  refine lv_iconst (pc := 0) (v := nI 0) hx hb d_X_tapeIsWord_0 (by decide) ?_
  refine lv_istore_n (pc := 1) hx hb d_X_tapeIsWord_1 rfl hl (by decide) rfl (fun ls hl => ?_)
  have hl : lv_has ls 2 [(1, .int (nI 0)), (0, .ref (g 0))] := hl
  have lp : ∀ (fu : Nat) (i : Nat) (ls : Array Slot) (H : Heap) (locs : List Loc), n - i < fu → lv_has ls 2 [(0, .ref (g 0)), (1, .int (nI i))] → gH D (xw g k) A s.heap (tp, (nI n), sg, ln, tc, ds) H locs → (i ≤ n) → (∀ j, j < i → sgn (tp j) = true) → W p l ev (gR 1) s m args below meth cd H locs 0 0 Q (F0 m 2 ls []) := by
    intro fu
    induction fu with
    | zero => intro i ls H locs hn hl hw hi ha; exact absurd hn (Nat.not_lt_zero _)
    | succ fu ih =>
      intro i ls H locs hn hl hw hi ha
      refine lv_iload_n (pc := 2) hx hb d_X_tapeIsWord_2 rfl (lv_at hl 1 rfl) ?_
      refine lv_aload_n (pc := 3) hx hb d_X_tapeIsWord_3 rfl (lv_at hl 0 rfl) ?_
      refine xg_tl (pc := 4) hC hw d_X_tapeIsWord_4 ?_
      refine nc_ge (pc := 7) (tgt := 30) hx hb d_X_tapeIsWord_7 (by decide) (by omega) (by omega) (fun hc7 => ?_) (fun hc7 => ?_)
      · have e : i = n := by omega
        subst e
        refine lv_aload_n (pc := 30) hx hb d_X_tapeIsWord_30 rfl (lv_at hl 0 rfl) ?_
        refine xg_tl (pc := 31) hC hw d_X_tapeIsWord_31 ?_
        refine lv_if_le (pc := 34) (tgt := 41) hx hb d_X_tapeIsWord_34 (by decide) (fun hc34 => ?_) (fun hc34 => ?_)
        · have e : i = 0 := Nat.not_lt.mp (fun q => absurd hc34 (nI_nle q (by omega))) |> Nat.le_zero.mp
          subst e
          refine lv_iconst (pc := 41) (v := nI 0) hx hb d_X_tapeIsWord_41 (by decide) ?_
          exact hQ _ _ _ _ _ _ hw (rfl) (⟨rfl, rfl⟩) d_X_tapeIsWord_42
        · have h0 : 0 < i := Nat.pos_of_ne_zero (fun q => hc34 (by rw [q]; decide))
          refine lv_iconst (pc := 37) (v := nI 1) hx hb d_X_tapeIsWord_37 (by decide) ?_
          refine lv_goto (pc := 38) (tgt := 42) hx hb d_X_tapeIsWord_38 (by decide) ?_
          exact hQ _ _ _ _ _ _ hw (rfl) (⟨by rw [isW_y h0 ha]; rfl, rfl⟩) d_X_tapeIsWord_42
      · refine lv_aload_n (pc := 10) hx hb d_X_tapeIsWord_10 rfl (lv_at hl 0 rfl) ?_
        refine xg_tp (pc := 11) hC hw d_X_tapeIsWord_11 ?_
        refine lv_iload_n (pc := 14) hx hb d_X_tapeIsWord_14 rfl (lv_at hl 1 rfl) ?_
        refine xl_tp (pc := 15) (i := i) (by omega) hC hw d_X_tapeIsWord_15 ?_
        refine g_calls (pc := 16) (as := [.int (tp i)]) (rest := []) hC hw (c_X_isSign l D (tp i)) lm_X_isSign f_X_isSign rfl rfl ⟨by decide, by decide⟩ hl.1 (Nat.le_of_ble_eq_true rfl) d_X_tapeIsWord_16 (fun H locs hw => ?_)
        refine lv_if_ne (pc := 19) (tgt := 24) hx hb d_X_tapeIsWord_19 (by decide) (fun hc19 => ?_) (fun hc19 => ?_)
        · refine lv_iinc (pc := 24) (k := 1) (v := nI (i + 1)) hx hb d_X_tapeIsWord_24 hl rfl (nI_i1 i) (by decide) rfl (fun ls hl => ?_)
          have hl : lv_has ls 2 [(1, .int (nI (i + 1))), (0, .ref (g 0))] := hl
          refine lv_goto (pc := 27) (tgt := 2) hx hb d_X_tapeIsWord_27 (by decide) ?_
          exact ih (i + 1) _ _ _ (by omega) (lv_sub hl [1, 0] rfl) hw (by omega) (lt_s ha (bI_1 hc19))
        · refine lv_iconst (pc := 22) (v := nI 0) hx hb d_X_tapeIsWord_22 (by decide) ?_
          exact hQ _ _ _ _ _ _ hw (rfl) (⟨by rw [isW_n (i := i) (by omega) (by rw [bI_0 hc19]; decide)]; rfl, rfl⟩) d_X_tapeIsWord_23
  exact lp (n + 1) 0 _ _ _ (by omega) (lv_sub hl [1, 0] rfl) hw (Nat.zero_le _) (fun j hj => absurd hj (Nat.not_lt_zero _))
