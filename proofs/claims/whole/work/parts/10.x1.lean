set_option maxHeartbeats 4000000 in
set_option maxRecDepth 100000 in
theorem c_X_small (l : Launch) (D : va_G) {b : Int32} (hby : by_ok b) : gMs l y_X_small (gW y_X_small b_X_small 1 (some .byte)) (gR 0) D [.int b] (sm b) := by
  refine g_starti (by decide) (Nat.le_of_ble_eq_true rfl) ?_
  intro p ev s m args below meth cd A Q ls hC hQ hl hw
  have hx := hC.1.1
  have hb := hC.1.2.1
  have hl : lv_has ls 1 [(0, .int b)] := hl
  refine lv_iload_n (pc := 0) hx hb d_X_small_0 rfl (lv_at hl 0 rfl) ?_
  refine lv_bipush (pc := 1) (v := 65) hx hb d_X_small_1 (by decide) ?_
  refine lv_icmp_lt (pc := 3) (tgt := 23) hx hb d_X_small_3 (by decide) (fun hc3 => ?_) (fun hc3 => ?_)
  · refine lv_iload_n (pc := 23) hx hb d_X_small_23 rfl (lv_at hl 0 rfl) ?_
    refine g_top (y := sm b) ((sm_no (fun q => absurd hc3 (Int32.not_lt.mpr q.1))).symm) ?_
    exact hQ _ _ _ _ _ _ hw (by_nar (by_sm hby)) (rfl) d_X_small_24
  · refine lv_iload_n (pc := 6) hx hb d_X_small_6 rfl (lv_at hl 0 rfl) ?_
    refine lv_bipush (pc := 7) (v := 90) hx hb d_X_small_7 (by decide) ?_
    refine lv_icmp_gt (pc := 9) (tgt := 23) hx hb d_X_small_9 (by decide) (fun hc9 => ?_) (fun hc9 => ?_)
    · refine lv_iload_n (pc := 23) hx hb d_X_small_23 rfl (lv_at hl 0 rfl) ?_
      refine g_top (y := sm b) ((sm_no (fun q => absurd hc9 (Int32.not_lt.mpr q.2))).symm) ?_
      exact hQ _ _ _ _ _ _ hw (by_nar (by_sm hby)) (rfl) d_X_small_24
    · refine lv_iload_n (pc := 12) hx hb d_X_small_12 rfl (lv_at hl 0 rfl) ?_
      refine lv_bipush (pc := 13) (v := 65) hx hb d_X_small_13 (by decide) ?_
      refine lv_isub (pc := 15) hx hb d_X_small_15 ?_
      refine lv_bipush (pc := 16) (v := 97) hx hb d_X_small_16 (by decide) ?_
      refine lv_iadd (pc := 18) hx hb d_X_small_18 ?_
      refine lv_i2b (pc := 19) hx hb d_X_small_19 rfl ?_
      refine g_top (y := sm b) (sm_up hby (Int32.not_lt.mp hc3) (Int32.not_lt.mp hc9)) ?_
      refine lv_goto (pc := 20) (tgt := 24) hx hb d_X_small_20 (by decide) ?_
      exact hQ _ _ _ _ _ _ hw (by_nar (by_sm hby)) (rfl) d_X_small_24
theorem sg_y {b : Int32} (h : (48 ≤ b ∧ b ≤ 57) ∨ (97 ≤ b ∧ b ≤ 122)) : (1 : Int32) = bI (sgn b) := by
  unfold bI sgn
  rw [if_pos (decide_eq_true h)]
theorem sg_n {b : Int32} (h : ¬ ((48 ≤ b ∧ b ≤ 57) ∨ (97 ≤ b ∧ b ≤ 122))) : (0 : Int32) = bI (sgn b) := by
  unfold bI sgn
  rw [if_neg (fun q => h (of_decide_eq_true q))]
theorem nl {a b : Int32} (h : a < b) (q : b ≤ a) : False := absurd h (Int32.not_lt.mpr q)
set_option maxHeartbeats 4000000 in
set_option maxRecDepth 100000 in
theorem c_X_isSign (l : Launch) (D : va_G) (b : Int32) : gMs l y_X_isSign (gW y_X_isSign b_X_isSign 1 (some .boolean)) (gR 0) D [.int b] (bI (sgn b)) := by
  refine g_starti (by decide) (Nat.le_of_ble_eq_true rfl) ?_
  intro p ev s m args below meth cd A Q ls hC hQ hl hw
  have hx := hC.1.1
  have hb := hC.1.2.1
  have hl : lv_has ls 1 [(0, .int b)] := hl
  refine lv_iload_n (pc := 0) hx hb d_X_isSign_0 rfl (lv_at hl 0 rfl) ?_
  refine lv_bipush (pc := 1) (v := 48) hx hb d_X_isSign_1 (by decide) ?_
  refine lv_icmp_lt (pc := 3) (tgt := 12) hx hb d_X_isSign_3 (by decide) (fun hc3 => ?_) (fun hc3 => ?_)
  · refine lv_iload_n (pc := 12) hx hb d_X_isSign_12 rfl (lv_at hl 0 rfl) ?_
    refine lv_bipush (pc := 13) (v := 97) hx hb d_X_isSign_13 (by decide) ?_
    refine lv_icmp_lt (pc := 15) (tgt := 28) hx hb d_X_isSign_15 (by decide) (fun hc15 => ?_) (fun hc15 => ?_)
    · refine lv_iconst (pc := 28) (v := 0) hx hb d_X_isSign_28 (by decide) ?_
      exact hQ _ _ _ _ _ _ hw (rfl) (sg_n (fun q => q.elim (fun z => nl hc3 z.1) (fun z => nl hc15 z.1))) d_X_isSign_29
    · refine lv_iload_n (pc := 18) hx hb d_X_isSign_18 rfl (lv_at hl 0 rfl) ?_
      refine lv_bipush (pc := 19) (v := 122) hx hb d_X_isSign_19 (by decide) ?_
      refine lv_icmp_gt (pc := 21) (tgt := 28) hx hb d_X_isSign_21 (by decide) (fun hc21 => ?_) (fun hc21 => ?_)
      · refine lv_iconst (pc := 28) (v := 0) hx hb d_X_isSign_28 (by decide) ?_
        exact hQ _ _ _ _ _ _ hw (rfl) (sg_n (fun q => q.elim (fun z => nl hc3 z.1) (fun z => nl hc21 z.2))) d_X_isSign_29
      · refine lv_iconst (pc := 24) (v := 1) hx hb d_X_isSign_24 (by decide) ?_
        refine lv_goto (pc := 25) (tgt := 29) hx hb d_X_isSign_25 (by decide) ?_
        exact hQ _ _ _ _ _ _ hw (rfl) (sg_y (Or.inr ⟨Int32.not_lt.mp hc15, Int32.not_lt.mp hc21⟩)) d_X_isSign_29
  · refine lv_iload_n (pc := 6) hx hb d_X_isSign_6 rfl (lv_at hl 0 rfl) ?_
    refine lv_bipush (pc := 7) (v := 57) hx hb d_X_isSign_7 (by decide) ?_
    refine lv_icmp_le (pc := 9) (tgt := 24) hx hb d_X_isSign_9 (by decide) (fun hc9 => ?_) (fun hc9 => ?_)
    · refine lv_iconst (pc := 24) (v := 1) hx hb d_X_isSign_24 (by decide) ?_
      refine lv_goto (pc := 25) (tgt := 29) hx hb d_X_isSign_25 (by decide) ?_
      exact hQ _ _ _ _ _ _ hw (rfl) (sg_y (Or.inl ⟨Int32.not_lt.mp hc3, hc9⟩)) d_X_isSign_29
    · refine lv_iload_n (pc := 12) hx hb d_X_isSign_12 rfl (lv_at hl 0 rfl) ?_
      refine lv_bipush (pc := 13) (v := 97) hx hb d_X_isSign_13 (by decide) ?_
      refine lv_icmp_lt (pc := 15) (tgt := 28) hx hb d_X_isSign_15 (by decide) (fun hc15 => ?_) (fun hc15 => ?_)
      · refine lv_iconst (pc := 28) (v := 0) hx hb d_X_isSign_28 (by decide) ?_
        exact hQ _ _ _ _ _ _ hw (rfl) (sg_n (fun q => q.elim (fun z => hc9 z.2) (fun z => nl hc15 z.1))) d_X_isSign_29
      · refine lv_iload_n (pc := 18) hx hb d_X_isSign_18 rfl (lv_at hl 0 rfl) ?_
        refine lv_bipush (pc := 19) (v := 122) hx hb d_X_isSign_19 (by decide) ?_
        refine lv_icmp_gt (pc := 21) (tgt := 28) hx hb d_X_isSign_21 (by decide) (fun hc21 => ?_) (fun hc21 => ?_)
        · refine lv_iconst (pc := 28) (v := 0) hx hb d_X_isSign_28 (by decide) ?_
          exact hQ _ _ _ _ _ _ hw (rfl) (sg_n (fun q => q.elim (fun z => hc9 z.2) (fun z => nl hc21 z.2))) d_X_isSign_29
        · refine lv_iconst (pc := 24) (v := 1) hx hb d_X_isSign_24 (by decide) ?_
          refine lv_goto (pc := 25) (tgt := 29) hx hb d_X_isSign_25 (by decide) ?_
          exact hQ _ _ _ _ _ _ hw (rfl) (sg_y (Or.inr ⟨Int32.not_lt.mp hc15, Int32.not_lt.mp hc21⟩)) d_X_isSign_29
set_option maxHeartbeats 4000000 in
set_option maxRecDepth 100000 in
theorem c_X_hasTerm_n (l : Launch) (D : va_G) (g : Nat → Nat) (k : Nat → ClassId) (tp : Nat → Int32) (tl : Int32) (sg ln : Nat → Int32) (tc : Int32) (ds : Nat → Int32) {x : Int32} (h : x < 0 ∨ tc ≤ x) : gMi l y_X_hasTerm (gW y_X_hasTerm b_X_hasTerm 2 (some .boolean)) (gR 0) D (xT k) (xw g k) [.ref (g 0), .int x] (tp, tl, sg, ln, tc, ds) (fun r u => r = 0 ∧ u = (tp, tl, sg, ln, tc, ds)) := by
  refine g_starti (by decide) (Nat.le_of_ble_eq_true rfl) ?_
  intro p ev s m args below meth cd A Q ls hC hQ hl hw
  have hx := hC.1.1
  have hb := hC.1.2.1
  have hl : lv_has ls 2 [(0, .ref (g 0)), (1, .int x)] := hl
  refine lv_iload_n (pc := 0) hx hb d_X_hasTerm_0 rfl (lv_at hl 1 rfl) ?_
  refine lv_if_lt (pc := 1) (tgt := 16) hx hb d_X_hasTerm_1 (by decide) (fun hc1 => ?_) (fun hc1 => ?_)
  · refine lv_iconst (pc := 16) (v := 0) hx hb d_X_hasTerm_16 (by decide) ?_
    exact hQ _ _ _ _ _ _ hw (rfl) (⟨rfl, rfl⟩) d_X_hasTerm_17
  · refine lv_iload_n (pc := 4) hx hb d_X_hasTerm_4 rfl (lv_at hl 1 rfl) ?_
    refine lv_aload_n (pc := 5) hx hb d_X_hasTerm_5 rfl (lv_at hl 0 rfl) ?_
    refine xg_tc (pc := 6) hC hw d_X_hasTerm_6 ?_
    refine lv_icmp_ge (pc := 9) (tgt := 16) hx hb d_X_hasTerm_9 (by decide) (fun hc9 => ?_) (fun hc9 => ?_)
    · refine lv_iconst (pc := 16) (v := 0) hx hb d_X_hasTerm_16 (by decide) ?_
      exact hQ _ _ _ _ _ _ hw (rfl) (⟨rfl, rfl⟩) d_X_hasTerm_17
    · exact (h.elim hc1 hc9).elim
set_option maxHeartbeats 4000000 in
set_option maxRecDepth 100000 in
theorem c_X_hasTerm_y (l : Launch) (D : va_G) (g : Nat → Nat) (k : Nat → ClassId) (tp : Nat → Int32) (tl : Int32) (sg ln : Nat → Int32) (ds : Nat → Int32) {j c : Nat} (h : j < c) (hc : c ≤ 150) : gMi l y_X_hasTerm (gW y_X_hasTerm b_X_hasTerm 2 (some .boolean)) (gR 0) D (xT k) (xw g k) [.ref (g 0), .int (nI j)] (tp, tl, sg, ln, (nI c), ds) (fun r u => r = 1 ∧ u = (tp, tl, sg, ln, (nI c), ds)) := by
  refine g_starti (by decide) (Nat.le_of_ble_eq_true rfl) ?_
  intro p ev s m args below meth cd A Q ls hC hQ hl hw
  have hx := hC.1.1
  have hb := hC.1.2.1
  have hl : lv_has ls 2 [(0, .ref (g 0)), (1, .int (nI j))] := hl
  refine lv_iload_n (pc := 0) hx hb d_X_hasTerm_0 rfl (lv_at hl 1 rfl) ?_
  refine lv_if_lt (pc := 1) (tgt := 16) hx hb d_X_hasTerm_1 (by decide) (fun hc1 => ?_) (fun hc1 => ?_)
  · exact absurd hc1 (nI_pos (by omega))
  · refine lv_iload_n (pc := 4) hx hb d_X_hasTerm_4 rfl (lv_at hl 1 rfl) ?_
    refine lv_aload_n (pc := 5) hx hb d_X_hasTerm_5 rfl (lv_at hl 0 rfl) ?_
    refine xg_tc (pc := 6) hC hw d_X_hasTerm_6 ?_
    refine nc_ge (pc := 9) (tgt := 16) hx hb d_X_hasTerm_9 (by decide) (by omega) (by omega) (fun hc9 => ?_) (fun hc9 => ?_)
    · omega
    · refine lv_iconst (pc := 12) (v := nI 1) hx hb d_X_hasTerm_12 (by decide) ?_
      refine lv_goto (pc := 13) (tgt := 17) hx hb d_X_hasTerm_13 (by decide) ?_
      exact hQ _ _ _ _ _ _ hw (rfl) (⟨rfl, rfl⟩) d_X_hasTerm_17
set_option maxHeartbeats 4000000 in
set_option maxRecDepth 100000 in
theorem c_X_signAt (l : Launch) (D : va_G) (g : Nat → Nat) (k : Nat → ClassId) (tp : Nat → Int32) (tl : Int32) (sg ln : Nat → Int32) (tc : Int32) (ds : Nat → Int32) {a j : Nat} (h : 24 * a + j < 3624) : gMi l y_X_signAt (gW y_X_signAt b_X_signAt 3 (some .int)) (gR 0) D (xT k) (xw g k) [.ref (g 0), .int (nI a), .int (nI j)] (tp, tl, sg, ln, tc, ds) (fun r u => r = sg (24 * a + j) ∧ u = (tp, tl, sg, ln, tc, ds)) := by
  refine g_starti (by decide) (Nat.le_of_ble_eq_true rfl) ?_
  intro p ev s m args below meth cd A Q ls hC hQ hl hw
  have hx := hC.1.1
  have hb := hC.1.2.1
  have hl : lv_has ls 3 [(0, .ref (g 0)), (1, .int (nI a)), (2, .int (nI j))] := hl
  refine lv_aload_n (pc := 0) hx hb d_X_signAt_0 rfl (lv_at hl 0 rfl) ?_
  refine xg_sg (pc := 1) hC hw d_X_signAt_1 ?_
  refine lv_iload_n (pc := 4) hx hb d_X_signAt_4 rfl (lv_at hl 1 rfl) ?_
  refine lv_bipush (pc := 5) (v := nI 24) hx hb d_X_signAt_5 (by decide) ?_
  refine lv_imul (pc := 7) hx hb d_X_signAt_7 ?_
  refine g_top (y := nI (24 * a)) ((pk_mul _ _).trans (congrArg nI (Nat.mul_comm _ _))) ?_
  refine lv_iload_n (pc := 8) hx hb d_X_signAt_8 rfl (lv_at hl 2 rfl) ?_
  refine lv_iadd (pc := 9) hx hb d_X_signAt_9 ?_
  refine g_top (y := nI ((24 * a) + j)) (nI_add _ _) ?_
  refine xl_sg (pc := 10) (i := (24 * a) + j) (by omega) hC hw d_X_signAt_10 ?_
  exact hQ _ _ _ _ _ _ hw (rfl) (⟨rfl, rfl⟩) d_X_signAt_11
theorem bI_y {q : Prop} (dq : Decidable q) (h : q) : (1 : Int32) = bI (decide q) := by
  unfold bI
  rw [if_pos (decide_eq_true h)]
theorem bI_n {q : Prop} (dq : Decidable q) (h : ¬ q) : (0 : Int32) = bI (decide q) := by
  unfold bI
  rw [if_neg (fun z => h (of_decide_eq_true z))]
set_option maxHeartbeats 4000000 in
set_option maxRecDepth 100000 in
theorem c_X_endsWithIes (l : Launch) (D : va_G) (g : Nat → Nat) (k : Nat → ClassId) (tp : Nat → Int32) (tl : Int32) (sg ln : Nat → Int32) (tc : Int32) (ds : Nat → Int32) {t : Nat} (h : 3 ≤ t) (h2 : t ≤ 300) : gMi l y_X_endsWithIes (gW y_X_endsWithIes b_X_endsWithIes 2 (some .boolean)) (gR 0) D (xT k) (xw g k) [.ref (g 0), .int (nI t)] (tp, tl, sg, ln, tc, ds) (fun r u => r = bI (decide (tp (t - 3) = 105 ∧ tp (t - 2) = 101 ∧ tp (t - 1) = 115)) ∧ u = (tp, tl, sg, ln, tc, ds)) := by
  refine g_starti (by decide) (Nat.le_of_ble_eq_true rfl) ?_
  intro p ev s m args below meth cd A Q ls hC hQ hl hw
  have hx := hC.1.1
  have hb := hC.1.2.1
  have hl : lv_has ls 2 [(0, .ref (g 0)), (1, .int (nI t))] := hl
  refine lv_aload_n (pc := 0) hx hb d_X_endsWithIes_0 rfl (lv_at hl 0 rfl) ?_
  refine xg_tp (pc := 1) hC hw d_X_endsWithIes_1 ?_
  refine lv_iload_n (pc := 4) hx hb d_X_endsWithIes_4 rfl (lv_at hl 1 rfl) ?_
  refine lv_iconst (pc := 5) (v := nI 3) hx hb d_X_endsWithIes_5 (by decide) ?_
  refine lv_isub (pc := 6) hx hb d_X_endsWithIes_6 ?_
  refine g_top (y := nI (t - 3)) (pk_sub (by omega)) ?_
  refine xl_tp (pc := 7) (i := t - 3) (by omega) hC hw d_X_endsWithIes_7 ?_
  refine lv_bipush (pc := 8) (v := 105) hx hb d_X_endsWithIes_8 (by decide) ?_
  refine lv_icmp_ne (pc := 10) (tgt := 43) hx hb d_X_endsWithIes_10 (by decide) (fun hc10 => ?_) (fun hc10 => ?_)
  · refine lv_iconst (pc := 43) (v := 0) hx hb d_X_endsWithIes_43 (by decide) ?_
    exact hQ _ _ _ _ _ _ hw (rfl) (⟨bI_n _ (fun q => hc10 q.1), rfl⟩) d_X_endsWithIes_44
  · refine lv_aload_n (pc := 13) hx hb d_X_endsWithIes_13 rfl (lv_at hl 0 rfl) ?_
    refine xg_tp (pc := 14) hC hw d_X_endsWithIes_14 ?_
    refine lv_iload_n (pc := 17) hx hb d_X_endsWithIes_17 rfl (lv_at hl 1 rfl) ?_
    refine lv_iconst (pc := 18) (v := nI 2) hx hb d_X_endsWithIes_18 (by decide) ?_
    refine lv_isub (pc := 19) hx hb d_X_endsWithIes_19 ?_
    refine g_top (y := nI (t - 2)) (pk_sub (by omega)) ?_
    refine xl_tp (pc := 20) (i := t - 2) (by omega) hC hw d_X_endsWithIes_20 ?_
    refine lv_bipush (pc := 21) (v := 101) hx hb d_X_endsWithIes_21 (by decide) ?_
    refine lv_icmp_ne (pc := 23) (tgt := 43) hx hb d_X_endsWithIes_23 (by decide) (fun hc23 => ?_) (fun hc23 => ?_)
    · refine lv_iconst (pc := 43) (v := 0) hx hb d_X_endsWithIes_43 (by decide) ?_
      exact hQ _ _ _ _ _ _ hw (rfl) (⟨bI_n _ (fun q => hc23 q.2.1), rfl⟩) d_X_endsWithIes_44
    · refine lv_aload_n (pc := 26) hx hb d_X_endsWithIes_26 rfl (lv_at hl 0 rfl) ?_
      refine xg_tp (pc := 27) hC hw d_X_endsWithIes_27 ?_
      refine lv_iload_n (pc := 30) hx hb d_X_endsWithIes_30 rfl (lv_at hl 1 rfl) ?_
      refine lv_iconst (pc := 31) (v := nI 1) hx hb d_X_endsWithIes_31 (by decide) ?_
      refine lv_isub (pc := 32) hx hb d_X_endsWithIes_32 ?_
      refine g_top (y := nI (t - 1)) (pk_sub (by omega)) ?_
      refine xl_tp (pc := 33) (i := t - 1) (by omega) hC hw d_X_endsWithIes_33 ?_
      refine lv_bipush (pc := 34) (v := 115) hx hb d_X_endsWithIes_34 (by decide) ?_
      refine lv_icmp_ne (pc := 36) (tgt := 43) hx hb d_X_endsWithIes_36 (by decide) (fun hc36 => ?_) (fun hc36 => ?_)
      · refine lv_iconst (pc := 43) (v := 0) hx hb d_X_endsWithIes_43 (by decide) ?_
        exact hQ _ _ _ _ _ _ hw (rfl) (⟨bI_n _ (fun q => hc36 q.2.2), rfl⟩) d_X_endsWithIes_44
      · refine lv_iconst (pc := 39) (v := 1) hx hb d_X_endsWithIes_39 (by decide) ?_
        refine lv_goto (pc := 40) (tgt := 44) hx hb d_X_endsWithIes_40 (by decide) ?_
        exact hQ _ _ _ _ _ _ hw (rfl) (⟨bI_y _ ⟨hc10, hc23, hc36⟩, rfl⟩) d_X_endsWithIes_44
set_option maxHeartbeats 4000000 in
set_option maxRecDepth 100000 in
theorem c_X_endsWithLooseS (l : Launch) (D : va_G) (g : Nat → Nat) (k : Nat → ClassId) (tp : Nat → Int32) (tl : Int32) (sg ln : Nat → Int32) (tc : Int32) (ds : Nat → Int32) {t : Nat} (h : 2 ≤ t) (h2 : t ≤ 300) : gMi l y_X_endsWithLooseS (gW y_X_endsWithLooseS b_X_endsWithLooseS 2 (some .boolean)) (gR 0) D (xT k) (xw g k) [.ref (g 0), .int (nI t)] (tp, tl, sg, ln, tc, ds) (fun r u => r = bI (decide (tp (t - 1) = 115 ∧ tp (t - 2) ≠ 115 ∧ tp (t - 2) ≠ 117)) ∧ u = (tp, tl, sg, ln, tc, ds)) := by
  refine g_starti (by decide) (Nat.le_of_ble_eq_true rfl) ?_
  intro p ev s m args below meth cd A Q ls hC hQ hl hw
  have hx := hC.1.1
  have hb := hC.1.2.1
  have hl : lv_has ls 2 [(0, .ref (g 0)), (1, .int (nI t))] := hl
  refine lv_aload_n (pc := 0) hx hb d_X_endsWithLooseS_0 rfl (lv_at hl 0 rfl) ?_
  refine xg_tp (pc := 1) hC hw d_X_endsWithLooseS_1 ?_
  refine lv_iload_n (pc := 4) hx hb d_X_endsWithLooseS_4 rfl (lv_at hl 1 rfl) ?_
  refine lv_iconst (pc := 5) (v := nI 1) hx hb d_X_endsWithLooseS_5 (by decide) ?_
  refine lv_isub (pc := 6) hx hb d_X_endsWithLooseS_6 ?_
  refine g_top (y := nI (t - 1)) (pk_sub (by omega)) ?_
  refine xl_tp (pc := 7) (i := t - 1) (by omega) hC hw d_X_endsWithLooseS_7 ?_
  refine lv_bipush (pc := 8) (v := 115) hx hb d_X_endsWithLooseS_8 (by decide) ?_
  refine lv_icmp_ne (pc := 10) (tgt := 43) hx hb d_X_endsWithLooseS_10 (by decide) (fun hc10 => ?_) (fun hc10 => ?_)
  · refine lv_iconst (pc := 43) (v := 0) hx hb d_X_endsWithLooseS_43 (by decide) ?_
    exact hQ _ _ _ _ _ _ hw (rfl) (⟨bI_n _ (fun q => hc10 q.1), rfl⟩) d_X_endsWithLooseS_44
  · refine lv_aload_n (pc := 13) hx hb d_X_endsWithLooseS_13 rfl (lv_at hl 0 rfl) ?_
    refine xg_tp (pc := 14) hC hw d_X_endsWithLooseS_14 ?_
    refine lv_iload_n (pc := 17) hx hb d_X_endsWithLooseS_17 rfl (lv_at hl 1 rfl) ?_
    refine lv_iconst (pc := 18) (v := nI 2) hx hb d_X_endsWithLooseS_18 (by decide) ?_
    refine lv_isub (pc := 19) hx hb d_X_endsWithLooseS_19 ?_
    refine g_top (y := nI (t - 2)) (pk_sub (by omega)) ?_
    refine xl_tp (pc := 20) (i := t - 2) (by omega) hC hw d_X_endsWithLooseS_20 ?_
    refine lv_bipush (pc := 21) (v := 115) hx hb d_X_endsWithLooseS_21 (by decide) ?_
    refine lv_icmp_eq (pc := 23) (tgt := 43) hx hb d_X_endsWithLooseS_23 (by decide) (fun hc23 => ?_) (fun hc23 => ?_)
    · refine lv_iconst (pc := 43) (v := 0) hx hb d_X_endsWithLooseS_43 (by decide) ?_
      exact hQ _ _ _ _ _ _ hw (rfl) (⟨bI_n _ (fun q => q.2.1 hc23), rfl⟩) d_X_endsWithLooseS_44
    · refine lv_aload_n (pc := 26) hx hb d_X_endsWithLooseS_26 rfl (lv_at hl 0 rfl) ?_
      refine xg_tp (pc := 27) hC hw d_X_endsWithLooseS_27 ?_
      refine lv_iload_n (pc := 30) hx hb d_X_endsWithLooseS_30 rfl (lv_at hl 1 rfl) ?_
      refine lv_iconst (pc := 31) (v := nI 2) hx hb d_X_endsWithLooseS_31 (by decide) ?_
      refine lv_isub (pc := 32) hx hb d_X_endsWithLooseS_32 ?_
      refine g_top (y := nI (t - 2)) (pk_sub (by omega)) ?_
      refine xl_tp (pc := 33) (i := t - 2) (by omega) hC hw d_X_endsWithLooseS_33 ?_
      refine lv_bipush (pc := 34) (v := 117) hx hb d_X_endsWithLooseS_34 (by decide) ?_
      refine lv_icmp_eq (pc := 36) (tgt := 43) hx hb d_X_endsWithLooseS_36 (by decide) (fun hc36 => ?_) (fun hc36 => ?_)
      · refine lv_iconst (pc := 43) (v := 0) hx hb d_X_endsWithLooseS_43 (by decide) ?_
        exact hQ _ _ _ _ _ _ hw (rfl) (⟨bI_n _ (fun q => q.2.2 hc36), rfl⟩) d_X_endsWithLooseS_44
      · refine lv_iconst (pc := 39) (v := 1) hx hb d_X_endsWithLooseS_39 (by decide) ?_
        refine lv_goto (pc := 40) (tgt := 44) hx hb d_X_endsWithLooseS_40 (by decide) ?_
        exact hQ _ _ _ _ _ _ hw (rfl) (⟨bI_y _ ⟨hc10, hc23, hc36⟩, rfl⟩) d_X_endsWithLooseS_44
set_option maxHeartbeats 4000000 in
set_option maxRecDepth 100000 in
theorem c_X_end (l : Launch) (D : va_G) (g : Nat → Nat) (k : Nat → ClassId) (tp : Nat → Int32) (tl : Int32) (sg ln : Nat → Int32) (tc : Int32) (ds : Nat → Int32) (x : Int32) : gMi l y_X_end (gW y_X_end b_X_end 2 (some .int)) (gR 0) D (xT k) (xw g k) [.ref (g 0), .int x] (tp, tl, sg, ln, tc, ds) (fun r u => ((x < 0 ∨ tl < x) ∧ r = -1 ∧ u = (tp, tl, sg, ln, tc, ds)) ∨ (¬ x < 0 ∧ x ≤ tl ∧ r = x ∧ u = (tp, x, sg, ln, tc, ds))) := by
  refine g_starti (by decide) (Nat.le_of_ble_eq_true rfl) ?_
  intro p ev s m args below meth cd A Q ls hC hQ hl hw
  have hx := hC.1.1
  have hb := hC.1.2.1
  have hl : lv_has ls 2 [(0, .ref (g 0)), (1, .int x)] := hl
  refine lv_iload_n (pc := 0) hx hb d_X_end_0 rfl (lv_at hl 1 rfl) ?_
  refine lv_if_lt (pc := 1) (tgt := 12) hx hb d_X_end_1 (by decide) (fun hc1 => ?_) (fun hc1 => ?_)
  · refine lv_iconst (pc := 12) (v := (-1)) hx hb d_X_end_12 (by decide) ?_
    exact hQ _ _ _ _ _ _ hw (rfl) (Or.inl ⟨Or.inl hc1, rfl, rfl⟩) d_X_end_13
  · refine lv_iload_n (pc := 4) hx hb d_X_end_4 rfl (lv_at hl 1 rfl) ?_
    refine lv_aload_n (pc := 5) hx hb d_X_end_5 rfl (lv_at hl 0 rfl) ?_
    refine xg_tl (pc := 6) hC hw d_X_end_6 ?_
    refine lv_icmp_le (pc := 9) (tgt := 14) hx hb d_X_end_9 (by decide) (fun hc9 => ?_) (fun hc9 => ?_)
    · refine lv_aload_n (pc := 14) hx hb d_X_end_14 rfl (lv_at hl 0 rfl) ?_
      refine lv_iload_n (pc := 15) hx hb d_X_end_15 rfl (lv_at hl 1 rfl) ?_
      refine xp_tl (pc := 16) hC hw d_X_end_16 (fun H locs hw => ?_)
      have hw : gH D (xw g k) A _ (tp, x, sg, ln, tc, ds) H locs := hw
      refine lv_iload_n (pc := 19) hx hb d_X_end_19 rfl (lv_at hl 1 rfl) ?_
      exact hQ _ _ _ _ _ _ hw (rfl) (Or.inr ⟨hc1, hc9, rfl, rfl⟩) d_X_end_20
    · refine lv_iconst (pc := 12) (v := (-1)) hx hb d_X_end_12 (by decide) ?_
      exact hQ _ _ _ _ _ _ hw (rfl) (Or.inl ⟨Or.inr (Int32.not_le.mp hc9), rfl, rfl⟩) d_X_end_13
