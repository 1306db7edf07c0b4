set_option maxHeartbeats 4000000 in
set_option maxRecDepth 100000 in
theorem c_X_putFour (l : Launch) (D : va_G) (g : Nat → Nat) (k : Nat → ClassId) (tp : Nat → Int32) (sg ln : Nat → Int32) (tc : Int32) (ds : Nat → Int32) {n : Nat} (x : Int32) (h : n + 4 ≤ 300) : gMv l y_X_putFour (gW y_X_putFour b_X_putFour 3 none) (gR 1) D (xT k) (xw g k) [.ref (g 0), .int x] (tp, (nI n), sg, ln, tc, ds) (fun u => u = (p4 sm tp n x, nI (n + 4), sg, ln, tc, ds)) := by
  refine g_startv (by decide) (Nat.le_of_ble_eq_true rfl) ?_
  intro p ev s m args below meth cd A Q ls hC hQ hl hw
  have hx := hC.1.1
  have hb := hC.1.2.1
  have hl : lv_has ls 3 [(0, .ref (g 0)), (1, .int x)] := hl
  refine lv_bipush (pc := 0) (v := nI 24) hx hb d_X_putFour_0 (by decide) ?_
  refine lv_istore_n (pc := 2) hx hb d_X_putFour_2 rfl hl (by decide) rfl (fun ls hl => ?_)
  have hl : lv_has ls 3 [(2, .int (nI 24)), (0, .ref (g 0)), (1, .int x)] := hl
  refine lv_iload_n (pc := 3) hx hb d_X_putFour_3 rfl (lv_at hl 0 rfl) ?_
  refine lv_if_lt (pc := 4) (tgt := 39) hx hb d_X_putFour_4 (by decide) (fun hc4 => absurd hc4 (by decide)) (fun _ => ?_)
  refine lv_aload_n (pc := 7) hx hb d_X_putFour_7 rfl (lv_at hl 1 rfl) ?_
  refine xg_tp (pc := 8) hC hw d_X_putFour_8 ?_
  refine lv_aload_n (pc := 11) hx hb d_X_putFour_11 rfl (lv_at hl 1 rfl) ?_
  refine xg_tl (pc := 12) hC hw d_X_putFour_12 ?_
  refine lv_iload_n (pc := 15) hx hb d_X_putFour_15 rfl (lv_at hl 2 rfl) ?_
  refine lv_iload_n (pc := 16) hx hb d_X_putFour_16 rfl (lv_at hl 0 rfl) ?_
  refine lv_iushr (pc := 17) hx hb d_X_putFour_17 rfl ?_
  refine lv_i2b (pc := 18) hx hb d_X_putFour_18 rfl ?_
  refine g_top (y := bq x 24) (bq_u x 24 (by decide)) ?_
  refine g_calls (pc := 19) (as := [.int (bq x 24)]) (rest := [.int (nI n), .ref (g 1)]) hC hw (c_X_small l D (bq_ok x 24)) lm_X_small f_X_small rfl rfl ⟨by decide, by decide⟩ hl.1 (Nat.le_of_ble_eq_true rfl) d_X_putFour_19 (fun H locs hw => ?_)
  refine xs_tp (pc := 22) (i := n) (x := sm (bq x 24)) (by omega) (by_sm (bq_ok x 24)) hC hw d_X_putFour_22 (fun H locs hw => ?_)
  refine lv_aload_n (pc := 23) hx hb d_X_putFour_23 rfl (lv_at hl 1 rfl) ?_
  refine lv_dup (pc := 24) hx hb d_X_putFour_24 rfl ?_
  refine xg_tl (pc := 25) hC hw d_X_putFour_25 ?_
  refine lv_iconst (pc := 28) (v := nI 1) hx hb d_X_putFour_28 (by decide) ?_
  refine lv_iadd (pc := 29) hx hb d_X_putFour_29 ?_
  refine g_top (y := nI (n + 1)) (nI_add _ _) ?_
  refine xp_tl (pc := 30) hC hw d_X_putFour_30 (fun H locs hw => ?_)
  have hw : gH D (xw g k) A _ ((upd tp n (sm (bq x 24))), (nI (n + 1)), sg, ln, tc, ds) H locs := hw
  refine lv_iinc (pc := 33) (k := 0) (v := nI 16) hx hb d_X_putFour_33 hl rfl (by decide) (by decide) rfl (fun ls hl => ?_)
  have hl : lv_has ls 3 [(2, .int (nI 16)), (0, .ref (g 0)), (1, .int x)] := hl
  refine lv_goto (pc := 36) (tgt := 3) hx hb d_X_putFour_36 (by decide) ?_
  refine lv_iload_n (pc := 3) hx hb d_X_putFour_3 rfl (lv_at hl 0 rfl) ?_
  refine lv_if_lt (pc := 4) (tgt := 39) hx hb d_X_putFour_4 (by decide) (fun hc4 => absurd hc4 (by decide)) (fun _ => ?_)
  refine lv_aload_n (pc := 7) hx hb d_X_putFour_7 rfl (lv_at hl 1 rfl) ?_
  refine xg_tp (pc := 8) hC hw d_X_putFour_8 ?_
  refine lv_aload_n (pc := 11) hx hb d_X_putFour_11 rfl (lv_at hl 1 rfl) ?_
  refine xg_tl (pc := 12) hC hw d_X_putFour_12 ?_
  refine lv_iload_n (pc := 15) hx hb d_X_putFour_15 rfl (lv_at hl 2 rfl) ?_
  refine lv_iload_n (pc := 16) hx hb d_X_putFour_16 rfl (lv_at hl 0 rfl) ?_
  refine lv_iushr (pc := 17) hx hb d_X_putFour_17 rfl ?_
  refine lv_i2b (pc := 18) hx hb d_X_putFour_18 rfl ?_
  refine g_top (y := bq x 16) (bq_u x 16 (by decide)) ?_
  refine g_calls (pc := 19) (as := [.int (bq x 16)]) (rest := [.int (nI (n + 1)), .ref (g 1)]) hC hw (c_X_small l D (bq_ok x 16)) lm_X_small f_X_small rfl rfl ⟨by decide, by decide⟩ hl.1 (Nat.le_of_ble_eq_true rfl) d_X_putFour_19 (fun H locs hw => ?_)
  refine xs_tp (pc := 22) (i := n + 1) (x := sm (bq x 16)) (by omega) (by_sm (bq_ok x 16)) hC hw d_X_putFour_22 (fun H locs hw => ?_)
  refine lv_aload_n (pc := 23) hx hb d_X_putFour_23 rfl (lv_at hl 1 rfl) ?_
  refine lv_dup (pc := 24) hx hb d_X_putFour_24 rfl ?_
  refine xg_tl (pc := 25) hC hw d_X_putFour_25 ?_
  refine lv_iconst (pc := 28) (v := nI 1) hx hb d_X_putFour_28 (by decide) ?_
  refine lv_iadd (pc := 29) hx hb d_X_putFour_29 ?_
  refine g_top (y := nI ((n + 1) + 1)) (nI_add _ _) ?_
  refine xp_tl (pc := 30) hC hw d_X_putFour_30 (fun H locs hw => ?_)
  have hw : gH D (xw g k) A _ ((upd ((upd tp n (sm (bq x 24)))) (n + 1) (sm (bq x 16))), (nI ((n + 1) + 1)), sg, ln, tc, ds) H locs := hw
  refine lv_iinc (pc := 33) (k := 0) (v := nI 8) hx hb d_X_putFour_33 hl rfl (by decide) (by decide) rfl (fun ls hl => ?_)
  have hl : lv_has ls 3 [(2, .int (nI 8)), (0, .ref (g 0)), (1, .int x)] := hl
  refine lv_goto (pc := 36) (tgt := 3) hx hb d_X_putFour_36 (by decide) ?_
  refine lv_iload_n (pc := 3) hx hb d_X_putFour_3 rfl (lv_at hl 0 rfl) ?_
  refine lv_if_lt (pc := 4) (tgt := 39) hx hb d_X_putFour_4 (by decide) (fun hc4 => absurd hc4 (by decide)) (fun _ => ?_)
  refine lv_aload_n (pc := 7) hx hb d_X_putFour_7 rfl (lv_at hl 1 rfl) ?_
  refine xg_tp (pc := 8) hC hw d_X_putFour_8 ?_
  refine lv_aload_n (pc := 11) hx hb d_X_putFour_11 rfl (lv_at hl 1 rfl) ?_
  refine xg_tl (pc := 12) hC hw d_X_putFour_12 ?_
  refine lv_iload_n (pc := 15) hx hb d_X_putFour_15 rfl (lv_at hl 2 rfl) ?_
  refine lv_iload_n (pc := 16) hx hb d_X_putFour_16 rfl (lv_at hl 0 rfl) ?_
  refine lv_iushr (pc := 17) hx hb d_X_putFour_17 rfl ?_
  refine lv_i2b (pc := 18) hx hb d_X_putFour_18 rfl ?_
  refine g_top (y := bq x 8) (bq_u x 8 (by decide)) ?_
  refine g_calls (pc := 19) (as := [.int (bq x 8)]) (rest := [.int (nI ((n + 1) + 1)), .ref (g 1)]) hC hw (c_X_small l D (bq_ok x 8)) lm_X_small f_X_small rfl rfl ⟨by decide, by decide⟩ hl.1 (Nat.le_of_ble_eq_true rfl) d_X_putFour_19 (fun H locs hw => ?_)
  refine xs_tp (pc := 22) (i := (n + 1) + 1) (x := sm (bq x 8)) (by omega) (by_sm (bq_ok x 8)) hC hw d_X_putFour_22 (fun H locs hw => ?_)
  refine lv_aload_n (pc := 23) hx hb d_X_putFour_23 rfl (lv_at hl 1 rfl) ?_
  refine lv_dup (pc := 24) hx hb d_X_putFour_24 rfl ?_
  refine xg_tl (pc := 25) hC hw d_X_putFour_25 ?_
  refine lv_iconst (pc := 28) (v := nI 1) hx hb d_X_putFour_28 (by decide) ?_
  refine lv_iadd (pc := 29) hx hb d_X_putFour_29 ?_
  refine g_top (y := nI (((n + 1) + 1) + 1)) (nI_add _ _) ?_
  refine xp_tl (pc := 30) hC hw d_X_putFour_30 (fun H locs hw => ?_)
  have hw : gH D (xw g k) A _ ((upd ((upd ((upd tp n (sm (bq x 24)))) (n + 1) (sm (bq x 16)))) ((n + 1) + 1) (sm (bq x 8))), (nI (((n + 1) + 1) + 1)), sg, ln, tc, ds) H locs := hw
  refine lv_iinc (pc := 33) (k := 0) (v := nI 0) hx hb d_X_putFour_33 hl rfl (by decide) (by decide) rfl (fun ls hl => ?_)
  have hl : lv_has ls 3 [(2, .int (nI 0)), (0, .ref (g 0)), (1, .int x)] := hl
  refine lv_goto (pc := 36) (tgt := 3) hx hb d_X_putFour_36 (by decide) ?_
  refine lv_iload_n (pc := 3) hx hb d_X_putFour_3 rfl (lv_at hl 0 rfl) ?_
  refine lv_if_lt (pc := 4) (tgt := 39) hx hb d_X_putFour_4 (by decide) (fun hc4 => absurd hc4 (by decide)) (fun _ => ?_)
  refine lv_aload_n (pc := 7) hx hb d_X_putFour_7 rfl (lv_at hl 1 rfl) ?_
  refine xg_tp (pc := 8) hC hw d_X_putFour_8 ?_
  refine lv_aload_n (pc := 11) hx hb d_X_putFour_11 rfl (lv_at hl 1 rfl) ?_
  refine xg_tl (pc := 12) hC hw d_X_putFour_12 ?_
  refine lv_iload_n (pc := 15) hx hb d_X_putFour_15 rfl (lv_at hl 2 rfl) ?_
  refine lv_iload_n (pc := 16) hx hb d_X_putFour_16 rfl (lv_at hl 0 rfl) ?_
  refine lv_iushr (pc := 17) hx hb d_X_putFour_17 rfl ?_
  refine lv_i2b (pc := 18) hx hb d_X_putFour_18 rfl ?_
  refine g_top (y := bq x 0) (bq_u x 0 (by decide)) ?_
  refine g_calls (pc := 19) (as := [.int (bq x 0)]) (rest := [.int (nI (((n + 1) + 1) + 1)), .ref (g 1)]) hC hw (c_X_small l D (bq_ok x 0)) lm_X_small f_X_small rfl rfl ⟨by decide, by decide⟩ hl.1 (Nat.le_of_ble_eq_true rfl) d_X_putFour_19 (fun H locs hw => ?_)
  refine xs_tp (pc := 22) (i := ((n + 1) + 1) + 1) (x := sm (bq x 0)) (by omega) (by_sm (bq_ok x 0)) hC hw d_X_putFour_22 (fun H locs hw => ?_)
  refine lv_aload_n (pc := 23) hx hb d_X_putFour_23 rfl (lv_at hl 1 rfl) ?_
  refine lv_dup (pc := 24) hx hb d_X_putFour_24 rfl ?_
  refine xg_tl (pc := 25) hC hw d_X_putFour_25 ?_
  refine lv_iconst (pc := 28) (v := nI 1) hx hb d_X_putFour_28 (by decide) ?_
  refine lv_iadd (pc := 29) hx hb d_X_putFour_29 ?_
  refine g_top (y := nI ((((n + 1) + 1) + 1) + 1)) (nI_add _ _) ?_
  refine xp_tl (pc := 30) hC hw d_X_putFour_30 (fun H locs hw => ?_)
  have hw : gH D (xw g k) A _ ((upd ((upd ((upd ((upd tp n (sm (bq x 24)))) (n + 1) (sm (bq x 16)))) ((n + 1) + 1) (sm (bq x 8)))) (((n + 1) + 1) + 1) (sm (bq x 0))), (nI ((((n + 1) + 1) + 1) + 1)), sg, ln, tc, ds) H locs := hw
  refine lv_iinc (pc := 33) (k := 0) (v := (-8)) hx hb d_X_putFour_33 hl rfl (by decide) (by decide) rfl (fun ls hl => ?_)
  have hl : lv_has ls 3 [(2, .int ((-8))), (0, .ref (g 0)), (1, .int x)] := hl
  refine lv_goto (pc := 36) (tgt := 3) hx hb d_X_putFour_36 (by decide) ?_
  refine lv_iload_n (pc := 3) hx hb d_X_putFour_3 rfl (lv_at hl 0 rfl) ?_
  refine lv_if_lt (pc := 4) (tgt := 39) hx hb d_X_putFour_4 (by decide) (fun _ => ?_) (fun hc4 => absurd (by decide) hc4)
  exact hQ _ _ _ _ _ hw (rfl) d_X_putFour_39
set_option maxHeartbeats 4000000 in
set_option maxRecDepth 100000 in
theorem c_X_feed (l : Launch) (D : va_G) (g : Nat → Nat) (k : Nat → ClassId) (tp : Nat → Int32) (sg ln : Nat → Int32) (tc : Int32) (ds : Nat → Int32) {n : Nat} (v1 v2 v3 v4 v5 : Int32) (h : n ≤ 300) : gMi l y_X_feed (gW y_X_feed b_X_feed 6 (some .int)) (gR 2) D (xT k) (xw g k) [.ref (g 0), .int v1, .int v2, .int v3, .int v4, .int v5] (tp, (nI n), sg, ln, tc, ds) (fun r u => (300 < n + 20 ∧ r = -3 ∧ u = (tp, nI n, sg, ln, tc, ds)) ∨ (n + 20 ≤ 300 ∧ r = nI (n + 20) ∧ u = (p20 sm tp n v1 v2 v3 v4 v5, nI (n + 20), sg, ln, tc, ds))) := by
  refine g_starti (by decide) (Nat.le_of_ble_eq_true rfl) ?_
  intro p ev s m args below meth cd A Q ls hC hQ hl hw
  have hx := hC.1.1
  have hb := hC.1.2.1
  have hl : lv_has ls 6 [(0, .ref (g 0)), (1, .int v1), (2, .int v2), (3, .int v3), (4, .int v4), (5, .int v5)] := hl
  refine lv_aload_n (pc := 0) hx hb d_X_feed_0 rfl (lv_at hl 0 rfl) ?_
  refine xg_tl (pc := 1) hC hw d_X_feed_1 ?_
  refine lv_bipush (pc := 4) (v := nI 20) hx hb d_X_feed_4 (by decide) ?_
  refine lv_iadd (pc := 6) hx hb d_X_feed_6 ?_
  refine g_top (y := nI (n + 20)) (nI_add _ _) ?_
  refine lv_sipush (pc := 7) (v := nI 300) hx hb d_X_feed_7 (by decide) ?_
  refine nc_le (pc := 10) (tgt := 16) hx hb d_X_feed_10 (by decide) (by omega) (by omega) (fun hc10 => ?_) (fun hc10 => ?_)
  · refine lv_aload_n (pc := 16) hx hb d_X_feed_16 rfl (lv_at hl 0 rfl) ?_
    refine lv_iload_n (pc := 17) hx hb d_X_feed_17 rfl (lv_at hl 1 rfl) ?_
    refine g_callv (pc := 18) (as := [.int v1]) (rest := []) hC hw (c_X_putFour l D g k (tp) sg ln tc ds (n := n) v1 (by omega)) lm_X_putFour f_X_putFour rfl rfl rfl rfl ⟨by decide, by decide⟩ hl.1 (Nat.le_of_ble_eq_true rfl) d_X_feed_18 (fun u1 H locs hp hw => ?_)
    subst hp
    refine lv_aload_n (pc := 21) hx hb d_X_feed_21 rfl (lv_at hl 0 rfl) ?_
    refine lv_iload_n (pc := 22) hx hb d_X_feed_22 rfl (lv_at hl 2 rfl) ?_
    refine g_callv (pc := 23) (as := [.int v2]) (rest := []) hC hw (c_X_putFour l D g k (p4 sm (tp) (n) v1) sg ln tc ds (n := n + 4) v2 (by omega)) lm_X_putFour f_X_putFour rfl rfl rfl rfl ⟨by decide, by decide⟩ hl.1 (Nat.le_of_ble_eq_true rfl) d_X_feed_23 (fun u1 H locs hp hw => ?_)
    subst hp
    refine lv_aload_n (pc := 26) hx hb d_X_feed_26 rfl (lv_at hl 0 rfl) ?_
    refine lv_iload_n (pc := 27) hx hb d_X_feed_27 rfl (lv_at hl 3 rfl) ?_
    refine g_callv (pc := 28) (as := [.int v3]) (rest := []) hC hw (c_X_putFour l D g k (p4 sm (p4 sm (tp) (n) v1) (n + 4) v2) sg ln tc ds (n := n + 4 + 4) v3 (by omega)) lm_X_putFour f_X_putFour rfl rfl rfl rfl ⟨by decide, by decide⟩ hl.1 (Nat.le_of_ble_eq_true rfl) d_X_feed_28 (fun u1 H locs hp hw => ?_)
    subst hp
    refine lv_aload_n (pc := 31) hx hb d_X_feed_31 rfl (lv_at hl 0 rfl) ?_
    refine lv_iload (pc := 32) hx hb d_X_feed_32 (lv_at hl 4 rfl) ?_
    refine g_callv (pc := 34) (as := [.int v4]) (rest := []) hC hw (c_X_putFour l D g k (p4 sm (p4 sm (p4 sm (tp) (n) v1) (n + 4) v2) (n + 4 + 4) v3) sg ln tc ds (n := n + 4 + 4 + 4) v4 (by omega)) lm_X_putFour f_X_putFour rfl rfl rfl rfl ⟨by decide, by decide⟩ hl.1 (Nat.le_of_ble_eq_true rfl) d_X_feed_34 (fun u1 H locs hp hw => ?_)
    subst hp
    refine lv_aload_n (pc := 37) hx hb d_X_feed_37 rfl (lv_at hl 0 rfl) ?_
    refine lv_iload (pc := 38) hx hb d_X_feed_38 (lv_at hl 5 rfl) ?_
    refine g_callv (pc := 40) (as := [.int v5]) (rest := []) hC hw (c_X_putFour l D g k (p4 sm (p4 sm (p4 sm (p4 sm (tp) (n) v1) (n + 4) v2) (n + 4 + 4) v3) (n + 4 + 4 + 4) v4) sg ln tc ds (n := n + 4 + 4 + 4 + 4) v5 (by omega)) lm_X_putFour f_X_putFour rfl rfl rfl rfl ⟨by decide, by decide⟩ hl.1 (Nat.le_of_ble_eq_true rfl) d_X_feed_40 (fun u1 H locs hp hw => ?_)
    subst hp
    refine lv_aload_n (pc := 43) hx hb d_X_feed_43 rfl (lv_at hl 0 rfl) ?_
    refine xg_tl (pc := 44) hC hw d_X_feed_44 ?_
    exact hQ _ _ _ _ _ _ hw (rfl) (Or.inr ⟨hc10, rfl, rfl⟩) d_X_feed_47
  · refine lv_bipush (pc := 13) (v := (-3)) hx hb d_X_feed_13 (by decide) ?_
    exact hQ _ _ _ _ _ _ hw (rfl) (Or.inl ⟨hc10, rfl, rfl⟩) d_X_feed_15
/-- what sign answers -/
def asg (ts : List Tm) (x y : Int32) : Int32 := match hasT ts x with
  | none => -2
  | some T => if y < -1 then -2 else if nI T.1 ≤ y then -2 else if y = -1 then nI T.1 else T.2 y.toNatClampNeg
theorem asg_none {ts : List Tm} {x y : Int32} (h : hasT ts x = none) : -2 = asg ts x y := by
  unfold asg
  rw [h]
theorem asg_lo {ts : List Tm} {x y : Int32} {T : Tm} (h : hasT ts x = some T) (h1 : y < -1) : -2 = asg ts x y := by
  unfold asg
  rw [h]
  exact (if_pos h1).symm
theorem asg_hi {ts : List Tm} {x y : Int32} {T : Tm} (h : hasT ts x = some T) (h1 : ¬ y < -1) (h2 : nI T.1 ≤ y) : -2 = asg ts x y := by
  unfold asg
  rw [h]
  show _ = if _ then _ else _
  rw [if_neg h1, if_pos h2]
theorem asg_len {ts : List Tm} {x y : Int32} {T : Tm} (h : hasT ts x = some T) (h1 : ¬ y < -1) (h2 : ¬ nI T.1 ≤ y) (h3 : y = -1) : nI T.1 = asg ts x y := by
  unfold asg
  rw [h]
  show _ = if _ then _ else _
  rw [if_neg h1, if_neg h2, if_pos h3]
theorem asg_in {ts : List Tm} {x y : Int32} {T : Tm} (h : hasT ts x = some T) (h1 : ¬ y < -1) (h2 : ¬ nI T.1 ≤ y) (h3 : ¬ y = -1) : T.2 y.toNatClampNeg = asg ts x y := by
  unfold asg
  rw [h]
  show _ = if _ then _ else _
  rw [if_neg h1, if_neg h2, if_neg h3]
theorem ge0 {y : Int32} (h1 : ¬ y < -1) (h3 : ¬ y = -1) : ¬ y < 0 := by
  have e0 : (0 : Int32).toInt = 0 := by decide
  have e1 : (-1 : Int32).toInt = -1 := by decide
  intro h
  rw [Int32.lt_iff_toInt_lt] at h h1
  rw [e0] at h
  rw [e1] at h1
  exact h3 (Int32.toInt_inj.mp (by rw [e1]; omega))
set_option maxHeartbeats 4000000 in
set_option maxRecDepth 100000 in
theorem c_X_sign (l : Launch) (D : va_G) (g : Nat → Nat) (k : Nat → ClassId) (tp : Nat → Int32) (tl : Int32) {sg ln : Nat → Int32} (ds : Nat → Int32) {ts : List Tm} (x y : Int32) (ht : tok ts sg ln) (hlen : ts.length ≤ 150) : gMi l y_X_sign (gW y_X_sign b_X_sign 3 (some .int)) (gR 1) D (xT k) (xw g k) [.ref (g 0), .int x, .int y] (tp, tl, sg, ln, (nI ts.length), ds) (fun r u => r = asg ts x y ∧ u = (tp, tl, sg, ln, (nI ts.length), ds)) := by
  rcases hasT_cases ts x hlen with ⟨hT, hk⟩ | ⟨j, T, hj, rfl, hj2, hT⟩
  · refine g_starti (by decide) (Nat.le_of_ble_eq_true rfl) ?_
    intro p ev s m args below meth cd A Q ls hC hQ hl hw
    have hx := hC.1.1
    have hb := hC.1.2.1
    have hl : lv_has ls 3 [(0, .ref (g 0)), (1, .int x), (2, .int y)] := hl
    refine lv_aload_n (pc := 0) hx hb d_X_sign_0 rfl (lv_at hl 0 rfl) ?_
    refine lv_iload_n (pc := 1) hx hb d_X_sign_1 rfl (lv_at hl 1 rfl) ?_
    refine g_calli (pc := 2) (as := [.int x]) (rest := []) hC hw (c_X_hasTerm_n l D g k tp tl sg ln _ ds hk) lm_X_hasTerm f_X_hasTerm rfl rfl rfl rfl ⟨by decide, by decide⟩ hl.1 (Nat.le_of_ble_eq_true rfl) d_X_sign_2 (fun r u1 H locs hp hw => ?_)
    obtain ⟨rfl, rfl⟩ := hp
    refine lv_if_eq (pc := 5) (tgt := 23) hx hb d_X_sign_5 (by decide) (fun hc5 => ?_) (fun hc5 => ?_)
    · refine lv_bipush (pc := 23) (v := (-2)) hx hb d_X_sign_23 (by decide) ?_
      exact hQ _ _ _ _ _ _ hw (rfl) (⟨asg_none hT, rfl⟩) d_X_sign_25
    · exact absurd rfl hc5
  · refine g_starti (by decide) (Nat.le_of_ble_eq_true rfl) ?_
    intro p ev s m args below meth cd A Q ls hC hQ hl hw
    have hx := hC.1.1
    have hb := hC.1.2.1
    have hl : lv_has ls 3 [(0, .ref (g 0)), (1, .int (nI j)), (2, .int y)] := hl
    obtain ⟨t1, t2, t3⟩ := ht j T hj2
    refine lv_aload_n (pc := 0) hx hb d_X_sign_0 rfl (lv_at hl 0 rfl) ?_
    refine lv_iload_n (pc := 1) hx hb d_X_sign_1 rfl (lv_at hl 1 rfl) ?_
    refine g_calli (pc := 2) (as := [.int (nI j)]) (rest := []) hC hw (c_X_hasTerm_y l D g k tp tl sg ln ds hj hlen) lm_X_hasTerm f_X_hasTerm rfl rfl rfl rfl ⟨by decide, by decide⟩ hl.1 (Nat.le_of_ble_eq_true rfl) d_X_sign_2 (fun r u1 H locs hp hw => ?_)
    obtain ⟨rfl, rfl⟩ := hp
    refine lv_if_eq (pc := 5) (tgt := 23) hx hb d_X_sign_5 (by decide) (fun hc5 => ?_) (fun hc5 => ?_)
    · exact absurd hc5 (by decide)
    · refine lv_iload_n (pc := 8) hx hb d_X_sign_8 rfl (lv_at hl 2 rfl) ?_
      refine lv_iconst (pc := 9) (v := (-1)) hx hb d_X_sign_9 (by decide) ?_
      refine lv_icmp_lt (pc := 10) (tgt := 23) hx hb d_X_sign_10 (by decide) (fun hc10 => ?_) (fun hc10 => ?_)
      · refine lv_bipush (pc := 23) (v := (-2)) hx hb d_X_sign_23 (by decide) ?_
        exact hQ _ _ _ _ _ _ hw (rfl) (⟨asg_lo hT hc10, rfl⟩) d_X_sign_25
      · refine lv_iload_n (pc := 13) hx hb d_X_sign_13 rfl (lv_at hl 2 rfl) ?_
        refine lv_aload_n (pc := 14) hx hb d_X_sign_14 rfl (lv_at hl 0 rfl) ?_
        refine xg_ln (pc := 15) hC hw d_X_sign_15 ?_
        refine lv_iload_n (pc := 18) hx hb d_X_sign_18 rfl (lv_at hl 1 rfl) ?_
        refine xl_ln (pc := 19) (i := j) (by omega) hC hw d_X_sign_19 ?_
        refine g_top (y := nI T.1) (t2) ?_
        refine lv_icmp_lt (pc := 20) (tgt := 26) hx hb d_X_sign_20 (by decide) (fun hc20 => ?_) (fun hc20 => ?_)
        · refine lv_iload_n (pc := 26) hx hb d_X_sign_26 rfl (lv_at hl 2 rfl) ?_
          refine lv_iconst (pc := 27) (v := (-1)) hx hb d_X_sign_27 (by decide) ?_
          refine lv_icmp_ne (pc := 28) (tgt := 40) hx hb d_X_sign_28 (by decide) (fun hc28 => ?_) (fun hc28 => ?_)
          · obtain ⟨z, hz, rfl⟩ := nI_of (ge0 hc10 hc28)
            have hz2 : z < T.1 := (nI_ltI hz (by omega)).mp hc20
            refine lv_aload_n (pc := 40) hx hb d_X_sign_40 rfl (lv_at hl 0 rfl) ?_
            refine lv_iload_n (pc := 41) hx hb d_X_sign_41 rfl (lv_at hl 1 rfl) ?_
            refine lv_iload_n (pc := 42) hx hb d_X_sign_42 rfl (lv_at hl 2 rfl) ?_
            refine g_calli (pc := 43) (as := [.int (nI j), .int (nI z)]) (rest := []) hC hw (c_X_signAt l D g k tp tl sg ln _ ds (a := j) (j := z) (by omega)) lm_X_signAt f_X_signAt rfl rfl rfl rfl ⟨by decide, by decide⟩ hl.1 (Nat.le_of_ble_eq_true rfl) d_X_sign_43 (fun r u1 H locs hp hw => ?_)
            obtain ⟨rfl, rfl⟩ := hp
            refine g_top (y := T.2 z) (t3 z hz2) ?_
            exact hQ _ _ _ _ _ _ hw (rfl) (⟨(congrArg T.2 (nI_clamp hz).symm).trans (asg_in hT hc10 (Int32.not_le.mpr hc20) hc28), rfl⟩) d_X_sign_46
          · refine lv_aload_n (pc := 31) hx hb d_X_sign_31 rfl (lv_at hl 0 rfl) ?_
            refine xg_ln (pc := 32) hC hw d_X_sign_32 ?_
            refine lv_iload_n (pc := 35) hx hb d_X_sign_35 rfl (lv_at hl 1 rfl) ?_
            refine xl_ln (pc := 36) (i := j) (by omega) hC hw d_X_sign_36 ?_
            refine g_top (y := nI T.1) (t2) ?_
            refine lv_goto (pc := 37) (tgt := 46) hx hb d_X_sign_37 (by decide) ?_
            exact hQ _ _ _ _ _ _ hw (rfl) (⟨asg_len hT hc10 (Int32.not_le.mpr hc20) hc28, rfl⟩) d_X_sign_46
        · refine lv_bipush (pc := 23) (v := (-2)) hx hb d_X_sign_23 (by decide) ?_
          exact hQ _ _ _ _ _ _ hw (rfl) (⟨asg_hi hT hc10 (Int32.not_lt.mp hc20), rfl⟩) d_X_sign_25
set_option maxHeartbeats 4000000 in
set_option maxRecDepth 100000 in
theorem c_Integer_compare (l : Launch) (D : va_G) (a b : Int32) : gMs l y_Integer_compare (gW y_Integer_compare b_Integer_compare 2 (some .int)) (gR 0) D [.int a, .int b] (if a < b then (-1 : Int32) else if a = b then 0 else 1) := by
  refine g_starti (by decide) (Nat.le_of_ble_eq_true rfl) ?_
  intro p ev s m args below meth cd A Q ls hC hQ hl hw
  have hx := hC.1.1
  have hb := hC.1.2.1
  have hl : lv_has ls 2 [(0, .int a), (1, .int b)] := hl
  refine lv_iload_n (pc := 0) hx hb d_Integer_compare_0 rfl (lv_at hl 0 rfl) ?_
  refine lv_iload_n (pc := 1) hx hb d_Integer_compare_1 rfl (lv_at hl 1 rfl) ?_
  refine lv_icmp_ge (pc := 2) (tgt := 9) hx hb d_Integer_compare_2 (by decide) (fun hc2 => ?_) (fun hc2 => ?_)
  · refine lv_iload_n (pc := 9) hx hb d_Integer_compare_9 rfl (lv_at hl 0 rfl) ?_
    refine lv_iload_n (pc := 10) hx hb d_Integer_compare_10 rfl (lv_at hl 1 rfl) ?_
    refine lv_icmp_ne (pc := 11) (tgt := 18) hx hb d_Integer_compare_11 (by decide) (fun hc11 => ?_) (fun hc11 => ?_)
    · refine lv_iconst (pc := 18) (v := 1) hx hb d_Integer_compare_18 (by decide) ?_
      exact hQ _ _ _ _ _ _ hw (rfl) (by rw [if_neg (Int32.not_lt.mpr hc2), if_neg hc11]) d_Integer_compare_19
    · refine lv_iconst (pc := 14) (v := 0) hx hb d_Integer_compare_14 (by decide) ?_
      refine lv_goto (pc := 15) (tgt := 19) hx hb d_Integer_compare_15 (by decide) ?_
      exact hQ _ _ _ _ _ _ hw (rfl) (by rw [if_neg (Int32.not_lt.mpr hc2), if_pos hc11]) d_Integer_compare_19
  · refine lv_iconst (pc := 5) (v := (-1)) hx hb d_Integer_compare_5 (by decide) ?_
    refine lv_goto (pc := 6) (tgt := 19) hx hb d_Integer_compare_6 (by decide) ?_
    exact hQ _ _ _ _ _ _ hw (rfl) (by rw [if_pos (Int32.not_le.mp hc2)]) d_Integer_compare_19
theorem mn_eq {a b : Nat} (ha : a < 2 ^ 31) (hb : b < 2 ^ 31) : (if nI b < nI a then nI b else nI a) = nI (min a b) := by
  by_cases h : b < a
  · rw [if_pos ((nI_ltI hb ha).mpr h), Nat.min_eq_right (by omega)]
  · rw [if_neg (fun q => h ((nI_ltI hb ha).mp q)), Nat.min_eq_left (by omega)]
/-- Integer.compare of two lengths -/
theorem icm_eq {a b : Nat} (ha : a < 2 ^ 31) (hb : b < 2 ^ 31) : (if nI a < nI b then (-1 : Int32) else if nI a = nI b then 0 else 1) = if a < b then -1 else if b < a then 1 else 0 := by
  by_cases h : a < b
  · rw [if_pos ((nI_ltI ha hb).mpr h), if_pos h]
  · rw [if_neg (fun q => h ((nI_ltI ha hb).mp q)), if_neg h]
    by_cases h2 : a = b
    · rw [if_pos (congrArg nI h2), if_neg (by omega)]
    · rw [if_neg (fun q => h2 ((nI_eq ha hb).mp q)), if_pos (by omega)]
set_option maxHeartbeats 4000000 in
set_option maxRecDepth 100000 in
theorem c_X_order (l : Launch) (D : va_G) (g : Nat → Nat) (k : Nat → ClassId) (tp : Nat → Int32) (tl : Int32) (sg ln : Nat → Int32) (tc : Int32) (ds : Nat → Int32) {a b : Nat} {T V : Tm} (ha : a < 151) (hb0 : b < 151) (hT : tat sg ln a T) (hV : tat sg ln b V) : gMi l y_X_order (gW y_X_order b_X_order 5 (some .int)) (gR 1) D (xT k) (xw g k) [.ref (g 0), .int (nI a), .int (nI b)] (tp, tl, sg, ln, tc, ds) (fun r u => r = od T V ∧ u = (tp, tl, sg, ln, tc, ds)) := by
  refine g_starti (by decide) (Nat.le_of_ble_eq_true rfl) ?_
  intro p ev s m args below meth cd A Q ls hC hQ hl hw
  have hx := hC.1.1
  have hb := hC.1.2.1
  have hl : lv_has ls 5 [(0, .ref (g 0)), (1, .int (nI a)), (2, .int (nI b))] := hl
  obtain ⟨t1, t2, t3⟩ := hT
  obtain ⟨v1, v2, v3⟩ := hV
  refine lv_aload_n (pc := 0) hx hb d_X_order_0 rfl (lv_at hl 0 rfl) ?_
  refine xg_ln (pc := 1) hC hw d_X_order_1 ?_
  refine lv_iload_n (pc := 4) hx hb d_X_order_4 rfl (lv_at hl 1 rfl) ?_
  refine xl_ln (pc := 5) (i := a) (by omega) hC hw d_X_order_5 ?_
  refine g_top (y := nI T.1) (t2) ?_
  refine lv_aload_n (pc := 6) hx hb d_X_order_6 rfl (lv_at hl 0 rfl) ?_
  refine xg_ln (pc := 7) hC hw d_X_order_7 ?_
  refine lv_iload_n (pc := 10) hx hb d_X_order_10 rfl (lv_at hl 2 rfl) ?_
  refine xl_ln (pc := 11) (i := b) (by omega) hC hw d_X_order_11 ?_
  refine g_top (y := nI V.1) (v2) ?_
  refine va_mmin (pc := 12) hx hb (hC.1.2.2.1.trans hl.1.symm) hC.1.2.2.2.1 (hC.1.2.2.2.2 _ lm_X_Math_min) (hC.1.2.2.2.2 _ i_Math_min_static) (hC.1.2.2.2.2 _ i_Math_init) (hC.1.2.2.2.2 _ i_Math_min_code) (by decide) (Nat.le_of_ble_eq_true rfl) (Nat.zero_le _) (Nat.zero_le _) d_X_order_12 ?_
  refine g_top (y := nI (min T.1 V.1)) (mn_eq (by omega) (by omega)) ?_
  refine lv_istore_n (pc := 15) hx hb d_X_order_15 rfl hl (by decide) rfl (fun ls hl => ?_)
  have hl : lv_has ls 5 [(3, .int (nI (min T.1 V.1))), (0, .ref (g 0)), (1, .int (nI a)), (2, .int (nI b))] := hl
  refine lv_iconst (pc := 16) (v := nI 0) hx hb d_X_order_16 (by decide) ?_
  refine lv_istore (pc := 17) hx hb d_X_order_17 hl (by decide) rfl (fun ls hl => ?_)
  have hl : lv_has ls 5 [(4, .int (nI 0)), (3, .int (nI (min T.1 V.1))), (0, .ref (g 0)), (1, .int (nI a)), (2, .int (nI b))] := hl
  have lp : ∀ (fu : Nat) (i : Nat) (ls : Array Slot) (H : Heap) (locs : List Loc), min T.1 V.1 - i < fu → lv_has ls 5 [(0, .ref (g 0)), (1, .int (nI a)), (2, .int (nI b)), (3, .int (nI (min T.1 V.1))), (4, .int (nI i))] → gH D (xw g k) A s.heap (tp, tl, sg, ln, tc, ds) H locs → (i ≤ min T.1 V.1) → (odr T.2 V.2 T.1 V.1 (min T.1 V.1 - i) i = od T V) → W p l ev (gR 1) s m args below meth cd H locs 0 0 Q (F0 m 19 ls []) := by
    intro fu
    induction fu with
    | zero => intro i ls H locs hn hl hw hi ho; exact absurd hn (Nat.not_lt_zero _)
    | succ fu ih =>
      intro i ls H locs hn hl hw hi ho
      refine lv_iload (pc := 19) hx hb d_X_order_19 (lv_at hl 4 rfl) ?_
      refine lv_iload_n (pc := 21) hx hb d_X_order_21 rfl (lv_at hl 3 rfl) ?_
      refine nc_ge (pc := 22) (tgt := 71) hx hb d_X_order_22 (by decide) (by omega) (by omega) (fun hc22 => ?_) (fun hc22 => ?_)
      · have e : i = min T.1 V.1 := by omega
        subst e
        rw [Nat.sub_self] at ho
        refine lv_aload_n (pc := 71) hx hb d_X_order_71 rfl (lv_at hl 0 rfl) ?_
        refine xg_ln (pc := 72) hC hw d_X_order_72 ?_
        refine lv_iload_n (pc := 75) hx hb d_X_order_75 rfl (lv_at hl 1 rfl) ?_
        refine xl_ln (pc := 76) (i := a) (by omega) hC hw d_X_order_76 ?_
        refine g_top (y := nI T.1) (t2) ?_
        refine lv_aload_n (pc := 77) hx hb d_X_order_77 rfl (lv_at hl 0 rfl) ?_
        refine xg_ln (pc := 78) hC hw d_X_order_78 ?_
        refine lv_iload_n (pc := 81) hx hb d_X_order_81 rfl (lv_at hl 2 rfl) ?_
        refine xl_ln (pc := 82) (i := b) (by omega) hC hw d_X_order_82 ?_
        refine g_top (y := nI V.1) (v2) ?_
        refine g_calls (pc := 83) (as := [.int (nI (T.1)), .int (nI (V.1))]) (rest := []) hC hw (c_Integer_compare l D (nI T.1) (nI V.1)) lm_X_Integer_compare f_Integer_compare rfl rfl ⟨by decide, by decide⟩ hl.1 (Nat.le_of_ble_eq_true rfl) d_X_order_83 (fun H locs hw => ?_)
        exact hQ _ _ _ _ _ _ hw (rfl) (⟨(icm_eq (by omega) (by omega)).trans ho, rfl⟩) d_X_order_86
      · have e : min T.1 V.1 - i = (min T.1 V.1 - (i + 1)) + 1 := by omega
        rw [e] at ho
        refine lv_aload_n (pc := 25) hx hb d_X_order_25 rfl (lv_at hl 0 rfl) ?_
        refine lv_iload_n (pc := 26) hx hb d_X_order_26 rfl (lv_at hl 1 rfl) ?_
        refine lv_iload (pc := 27) hx hb d_X_order_27 (lv_at hl 4 rfl) ?_
        refine g_calli (pc := 29) (as := [.int (nI a), .int (nI i)]) (rest := []) hC hw (c_X_signAt l D g k tp tl sg ln tc ds (a := a) (j := i) (by omega)) lm_X_signAt f_X_signAt rfl rfl rfl rfl ⟨by decide, by decide⟩ hl.1 (Nat.le_of_ble_eq_true rfl) d_X_order_29 (fun r u1 H locs hp hw => ?_)
        obtain ⟨rfl, rfl⟩ := hp
        refine g_top (y := T.2 i) (t3 i (by omega)) ?_
        refine lv_aload_n (pc := 32) hx hb d_X_order_32 rfl (lv_at hl 0 rfl) ?_
        refine lv_iload_n (pc := 33) hx hb d_X_order_33 rfl (lv_at hl 2 rfl) ?_
        refine lv_iload (pc := 34) hx hb d_X_order_34 (lv_at hl 4 rfl) ?_
        refine g_calli (pc := 36) (as := [.int (nI b), .int (nI i)]) (rest := [.int (T.2 i)]) hC hw (c_X_signAt l D g k tp tl sg ln tc ds (a := b) (j := i) (by omega)) lm_X_signAt f_X_signAt rfl rfl rfl rfl ⟨by decide, by decide⟩ hl.1 (Nat.le_of_ble_eq_true rfl) d_X_order_36 (fun r u1 H locs hp hw => ?_)
        obtain ⟨rfl, rfl⟩ := hp
        refine g_top (y := V.2 i) (v3 i (by omega)) ?_
        refine lv_icmp_eq (pc := 39) (tgt := 65) hx hb d_X_order_39 (by decide) (fun hc39 => ?_) (fun hc39 => ?_)
        · refine lv_iinc (pc := 65) (k := 4) (v := nI (i + 1)) hx hb d_X_order_65 hl rfl (nI_i1 i) (by decide) rfl (fun ls hl => ?_)
          have hl : lv_has ls 5 [(4, .int (nI (i + 1))), (0, .ref (g 0)), (1, .int (nI a)), (2, .int (nI b)), (3, .int (nI (min T.1 V.1)))] := hl
          refine lv_goto (pc := 68) (tgt := 19) hx hb d_X_order_68 (by decide) ?_
          refine ih (i + 1) _ _ _ (by omega) (lv_sub hl [1, 2, 3, 4, 0] rfl) hw (by omega) ?_
          rw [← ho]
          show _ = if T.2 i = V.2 i then _ else _
          rw [if_pos hc39]
        · refine lv_aload_n (pc := 42) hx hb d_X_order_42 rfl (lv_at hl 0 rfl) ?_
          refine lv_iload_n (pc := 43) hx hb d_X_order_43 rfl (lv_at hl 1 rfl) ?_
          refine lv_iload (pc := 44) hx hb d_X_order_44 (lv_at hl 4 rfl) ?_
          refine g_calli (pc := 46) (as := [.int (nI a), .int (nI i)]) (rest := []) hC hw (c_X_signAt l D g k tp tl sg ln tc ds (a := a) (j := i) (by omega)) lm_X_signAt f_X_signAt rfl rfl rfl rfl ⟨by decide, by decide⟩ hl.1 (Nat.le_of_ble_eq_true rfl) d_X_order_46 (fun r u1 H locs hp hw => ?_)
          obtain ⟨rfl, rfl⟩ := hp
          refine g_top (y := T.2 i) (t3 i (by omega)) ?_
          refine lv_aload_n (pc := 49) hx hb d_X_order_49 rfl (lv_at hl 0 rfl) ?_
          refine lv_iload_n (pc := 50) hx hb d_X_order_50 rfl (lv_at hl 2 rfl) ?_
          refine lv_iload (pc := 51) hx hb d_X_order_51 (lv_at hl 4 rfl) ?_
          refine g_calli (pc := 53) (as := [.int (nI b), .int (nI i)]) (rest := [.int (T.2 i)]) hC hw (c_X_signAt l D g k tp tl sg ln tc ds (a := b) (j := i) (by omega)) lm_X_signAt f_X_signAt rfl rfl rfl rfl ⟨by decide, by decide⟩ hl.1 (Nat.le_of_ble_eq_true rfl) d_X_order_53 (fun r u1 H locs hp hw => ?_)
          obtain ⟨rfl, rfl⟩ := hp
          refine g_top (y := V.2 i) (v3 i (by omega)) ?_
          refine lv_icmp_ge (pc := 56) (tgt := 63) hx hb d_X_order_56 (by decide) (fun hc56 => ?_) (fun hc56 => ?_)
          · refine lv_iconst (pc := 63) (v := 1) hx hb d_X_order_63 (by decide) ?_
            exact hQ _ _ _ _ _ _ hw (rfl) (⟨by rw [← ho]; show _ = if T.2 i = V.2 i then _ else _; rw [if_neg hc39, if_neg (Int32.not_lt.mpr hc56)], rfl⟩) d_X_order_64
          · refine lv_iconst (pc := 59) (v := (-1)) hx hb d_X_order_59 (by decide) ?_
            refine lv_goto (pc := 60) (tgt := 64) hx hb d_X_order_60 (by decide) ?_
            exact hQ _ _ _ _ _ _ hw (rfl) (⟨by rw [← ho]; show _ = if T.2 i = V.2 i then _ else _; rw [if_neg hc39, if_pos (Int32.not_le.mp hc56)], rfl⟩) d_X_order_64
  exact lp (min T.1 V.1 + 1) 0 _ _ _ (by omega) (lv_sub hl [2, 3, 4, 1, 0] rfl) hw (Nat.zero_le _) rfl
set_option maxHeartbeats 4000000 in
set_option maxRecDepth 100000 in
theorem c_X_firstSame (l : Launch) (D : va_G) (g : Nat → Nat) (k : Nat → ClassId) (tp : Nat → Int32) (tl : Int32) {sg ln : Nat → Int32} (tc : Int32) (ds : Nat → Int32) {ts : List Tm} {a : Nat} {T : Tm} (ht : tok ts sg ln) (hlen : ts.length ≤ 150) (hT : ts[a]? = some T) : gMi l y_X_firstSame (gW y_X_firstSame b_X_firstSame 3 (some .int)) (gR 2) D (xT k) (xw g k) [.ref (g 0), .int (nI a)] (tp, tl, sg, ln, tc, ds) (fun r u => r = nI (fst ts T a) ∧ u = (tp, tl, sg, ln, tc, ds)) := by
  refine g_starti (by decide) (Nat.le_of_ble_eq_true rfl) ?_
  intro p ev s m args below meth cd A Q ls hC hQ hl hw
  have hx := hC.1.1
  have hb := hC.1.2.1
  have hl : lv_has ls 3 [(0, .ref (g 0)), (1, .int (nI a))] := hl
  have ha := (List.getElem?_eq_some_iff.mp hT).1
  refine lv_iconst (pc := 0) (v := nI 0) hx hb d_X_firstSame_0 (by decide) ?_
  refine lv_istore_n (pc := 1) hx hb d_X_firstSame_1 rfl hl (by decide) rfl (fun ls hl => ?_)
  have hl : lv_has ls 3 [(2, .int (nI 0)), (0, .ref (g 0)), (1, .int (nI a))] := hl
  have lp : ∀ (fu : Nat) (j : Nat) (ls : Array Slot) (H : Heap) (locs : List Loc), a - j < fu → lv_has ls 3 [(0, .ref (g 0)), (1, .int (nI a)), (2, .int (nI j))] → gH D (xw g k) A s.heap (tp, tl, sg, ln, tc, ds) H locs → (j ≤ a) → (fsr ts T (a - j) j = fst ts T a) → W p l ev (gR 2) s m args below meth cd H locs 0 0 Q (F0 m 2 ls []) := by
    intro fu
    induction fu with
    | zero => intro j ls H locs hn hl hw hj ho; exact absurd hn (Nat.not_lt_zero _)
    | succ fu ih =>
      intro j ls H locs hn hl hw hj ho
      refine lv_iload_n (pc := 2) hx hb d_X_firstSame_2 rfl (lv_at hl 2 rfl) ?_
      refine lv_iload_n (pc := 3) hx hb d_X_firstSame_3 rfl (lv_at hl 1 rfl) ?_
      refine nc_ge (pc := 4) (tgt := 24) hx hb d_X_firstSame_4 (by decide) (by omega) (by omega) (fun hc4 => ?_) (fun hc4 => ?_)
      · have e : j = a := by omega
        subst e
        rw [Nat.sub_self] at ho
        refine lv_iload_n (pc := 24) hx hb d_X_firstSame_24 rfl (lv_at hl 1 rfl) ?_
        exact hQ _ _ _ _ _ _ hw (rfl) (⟨congrArg nI ho, rfl⟩) d_X_firstSame_25
      · have e : a - j = (a - (j + 1)) + 1 := by omega
        rw [e] at ho
        have hU : ts[j]? = some ts[j] := List.getElem?_eq_getElem (by omega)
        refine lv_aload_n (pc := 7) hx hb d_X_firstSame_7 rfl (lv_at hl 0 rfl) ?_
        refine lv_iload_n (pc := 8) hx hb d_X_firstSame_8 rfl (lv_at hl 2 rfl) ?_
        refine lv_iload_n (pc := 9) hx hb d_X_firstSame_9 rfl (lv_at hl 1 rfl) ?_
        refine g_calli (pc := 10) (as := [.int (nI j), .int (nI a)]) (rest := []) hC hw (c_X_order l D g k tp tl sg ln tc ds (a := j) (b := a) (by omega) (by omega) (ht j _ hU) (ht a _ hT)) lm_X_order f_X_order rfl rfl rfl rfl ⟨by decide, by decide⟩ hl.1 (Nat.le_of_ble_eq_true rfl) d_X_firstSame_10 (fun r u1 H locs hp hw => ?_)
        obtain ⟨rfl, rfl⟩ := hp
        refine lv_if_ne (pc := 13) (tgt := 18) hx hb d_X_firstSame_13 (by decide) (fun hc13 => ?_) (fun hc13 => ?_)
        · refine lv_iinc (pc := 18) (k := 2) (v := nI (j + 1)) hx hb d_X_firstSame_18 hl rfl (nI_i1 j) (by decide) rfl (fun ls hl => ?_)
          have hl : lv_has ls 3 [(2, .int (nI (j + 1))), (0, .ref (g 0)), (1, .int (nI a))] := hl
          refine lv_goto (pc := 21) (tgt := 2) hx hb d_X_firstSame_21 (by decide) ?_
          rw [fsr_n hU hc13] at ho
          exact ih (j + 1) _ _ _ (by omega) (lv_sub hl [1, 2, 0] rfl) hw (by omega) ho
        · rw [fsr_y hU hc13] at ho
          refine lv_iload_n (pc := 16) hx hb d_X_firstSame_16 rfl (lv_at hl 2 rfl) ?_
          exact hQ _ _ _ _ _ _ hw (rfl) (⟨congrArg nI ho, rfl⟩) d_X_firstSame_17
  exact lp (a + 1) 0 _ _ _ (by omega) (lv_sub hl [1, 2, 0] rfl) hw (Nat.zero_le _) rfl
