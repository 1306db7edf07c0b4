set_option maxHeartbeats 4000000 in
set_option maxRecDepth 100000 in
theorem c_M_put (l : Launch) (D : va_G) (g : Nat → Nat) (k : Nat → ClassId) (tp : Nat → Int32) (tm : Nat → Int32) (sz : Nat → Int32) (ct : Int32) (wd : Nat → Int32) (wl : Int32) (tb : Nat → Int32) {n : Nat} (x : Int32) (h : n + 4 ≤ 300) : gMv l y_M_put (gW y_M_put b_M_put 3 none) (gR 0) D (mT k) (mw g k) [.ref (g 0), .int x] (tp, (nI n), tm, sz, ct, wd, wl, tb) (fun u => u = (p4 (fun b => b) tp n x, nI (n + 4), tm, sz, ct, wd, wl, tb)) := by
  refine g_startv (by decide) (Nat.le_of_ble_eq_true rfl) ?_
  intro p ev s m args below meth cd A Q ls hC hQ hl hw
  have hx := hC.1.1
  have hb := hC.1.2.1
  have hl : lv_has ls 3 [(0, .ref (g 0)), (1, .int x)] := hl
  refine lv_bipush (pc := 0) (v := nI 24) hx hb d_M_put_0 (by decide) ?_
  refine lv_istore_n (pc := 2) hx hb d_M_put_2 rfl hl (by decide) rfl (fun ls hl => ?_)
  have hl : lv_has ls 3 [(2, .int (nI 24)), (0, .ref (g 0)), (1, .int x)] := hl
  refine lv_iload_n (pc := 3) hx hb d_M_put_3 rfl (lv_at hl 0 rfl) ?_
  refine lv_if_lt (pc := 4) (tgt := 36) hx hb d_M_put_4 (by decide) (fun hc4 => absurd hc4 (by decide)) (fun _ => ?_)
  refine lv_aload_n (pc := 7) hx hb d_M_put_7 rfl (lv_at hl 1 rfl) ?_
  refine mg_tp (pc := 8) hC hw d_M_put_8 ?_
  refine lv_aload_n (pc := 11) hx hb d_M_put_11 rfl (lv_at hl 1 rfl) ?_
  refine mg_tl (pc := 12) hC hw d_M_put_12 ?_
  refine lv_iload_n (pc := 15) hx hb d_M_put_15 rfl (lv_at hl 2 rfl) ?_
  refine lv_iload_n (pc := 16) hx hb d_M_put_16 rfl (lv_at hl 0 rfl) ?_
  refine lv_ishr (pc := 17) hx hb d_M_put_17 ?_
  refine lv_i2b (pc := 18) hx hb d_M_put_18 rfl ?_
  refine g_top (y := bq x 24) (rfl) ?_
  refine ms_tp (pc := 19) (i := n) (x := bq x 24) (by omega) (bq_ok x 24) hC hw d_M_put_19 (fun H locs hw => ?_)
  refine lv_aload_n (pc := 20) hx hb d_M_put_20 rfl (lv_at hl 1 rfl) ?_
  refine lv_dup (pc := 21) hx hb d_M_put_21 rfl ?_
  refine mg_tl (pc := 22) hC hw d_M_put_22 ?_
  refine lv_iconst (pc := 25) (v := nI 1) hx hb d_M_put_25 (by decide) ?_
  refine lv_iadd (pc := 26) hx hb d_M_put_26 ?_
  refine g_top (y := nI (n + 1)) (nI_add _ _) ?_
  refine mp_tl (pc := 27) hC hw d_M_put_27 (fun H locs hw => ?_)
  have hw : gH D (mw g k) A _ ((upd tp n (bq x 24)), (nI (n + 1)), tm, sz, ct, wd, wl, tb) H locs := hw
  refine lv_iinc (pc := 30) (k := 0) (v := nI 16) hx hb d_M_put_30 hl rfl (by decide) (by decide) rfl (fun ls hl => ?_)
  have hl : lv_has ls 3 [(2, .int (nI 16)), (0, .ref (g 0)), (1, .int x)] := hl
  refine lv_goto (pc := 33) (tgt := 3) hx hb d_M_put_33 (by decide) ?_
  refine lv_iload_n (pc := 3) hx hb d_M_put_3 rfl (lv_at hl 0 rfl) ?_
  refine lv_if_lt (pc := 4) (tgt := 36) hx hb d_M_put_4 (by decide) (fun hc4 => absurd hc4 (by decide)) (fun _ => ?_)
  refine lv_aload_n (pc := 7) hx hb d_M_put_7 rfl (lv_at hl 1 rfl) ?_
  refine mg_tp (pc := 8) hC hw d_M_put_8 ?_
  refine lv_aload_n (pc := 11) hx hb d_M_put_11 rfl (lv_at hl 1 rfl) ?_
  refine mg_tl (pc := 12) hC hw d_M_put_12 ?_
  refine lv_iload_n (pc := 15) hx hb d_M_put_15 rfl (lv_at hl 2 rfl) ?_
  refine lv_iload_n (pc := 16) hx hb d_M_put_16 rfl (lv_at hl 0 rfl) ?_
  refine lv_ishr (pc := 17) hx hb d_M_put_17 ?_
  refine lv_i2b (pc := 18) hx hb d_M_put_18 rfl ?_
  refine g_top (y := bq x 16) (rfl) ?_
  refine ms_tp (pc := 19) (i := n + 1) (x := bq x 16) (by omega) (bq_ok x 16) hC hw d_M_put_19 (fun H locs hw => ?_)
  refine lv_aload_n (pc := 20) hx hb d_M_put_20 rfl (lv_at hl 1 rfl) ?_
  refine lv_dup (pc := 21) hx hb d_M_put_21 rfl ?_
  refine mg_tl (pc := 22) hC hw d_M_put_22 ?_
  refine lv_iconst (pc := 25) (v := nI 1) hx hb d_M_put_25 (by decide) ?_
  refine lv_iadd (pc := 26) hx hb d_M_put_26 ?_
  refine g_top (y := nI ((n + 1) + 1)) (nI_add _ _) ?_
  refine mp_tl (pc := 27) hC hw d_M_put_27 (fun H locs hw => ?_)
  have hw : gH D (mw g k) A _ ((upd ((upd tp n (bq x 24))) (n + 1) (bq x 16)), (nI ((n + 1) + 1)), tm, sz, ct, wd, wl, tb) H locs := hw
  refine lv_iinc (pc := 30) (k := 0) (v := nI 8) hx hb d_M_put_30 hl rfl (by decide) (by decide) rfl (fun ls hl => ?_)
  have hl : lv_has ls 3 [(2, .int (nI 8)), (0, .ref (g 0)), (1, .int x)] := hl
  refine lv_goto (pc := 33) (tgt := 3) hx hb d_M_put_33 (by decide) ?_
  refine lv_iload_n (pc := 3) hx hb d_M_put_3 rfl (lv_at hl 0 rfl) ?_
  refine lv_if_lt (pc := 4) (tgt := 36) hx hb d_M_put_4 (by decide) (fun hc4 => absurd hc4 (by decide)) (fun _ => ?_)
  refine lv_aload_n (pc := 7) hx hb d_M_put_7 rfl (lv_at hl 1 rfl) ?_
  refine mg_tp (pc := 8) hC hw d_M_put_8 ?_
  refine lv_aload_n (pc := 11) hx hb d_M_put_11 rfl (lv_at hl 1 rfl) ?_
  refine mg_tl (pc := 12) hC hw d_M_put_12 ?_
  refine lv_iload_n (pc := 15) hx hb d_M_put_15 rfl (lv_at hl 2 rfl) ?_
  refine lv_iload_n (pc := 16) hx hb d_M_put_16 rfl (lv_at hl 0 rfl) ?_
  refine lv_ishr (pc := 17) hx hb d_M_put_17 ?_
  refine lv_i2b (pc := 18) hx hb d_M_put_18 rfl ?_
  refine g_top (y := bq x 8) (rfl) ?_
  refine ms_tp (pc := 19) (i := (n + 1) + 1) (x := bq x 8) (by omega) (bq_ok x 8) hC hw d_M_put_19 (fun H locs hw => ?_)
  refine lv_aload_n (pc := 20) hx hb d_M_put_20 rfl (lv_at hl 1 rfl) ?_
  refine lv_dup (pc := 21) hx hb d_M_put_21 rfl ?_
  refine mg_tl (pc := 22) hC hw d_M_put_22 ?_
  refine lv_iconst (pc := 25) (v := nI 1) hx hb d_M_put_25 (by decide) ?_
  refine lv_iadd (pc := 26) hx hb d_M_put_26 ?_
  refine g_top (y := nI (((n + 1) + 1) + 1)) (nI_add _ _) ?_
  refine mp_tl (pc := 27) hC hw d_M_put_27 (fun H locs hw => ?_)
  have hw : gH D (mw g k) A _ ((upd ((upd ((upd tp n (bq x 24))) (n + 1) (bq x 16))) ((n + 1) + 1) (bq x 8)), (nI (((n + 1) + 1) + 1)), tm, sz, ct, wd, wl, tb) H locs := hw
  refine lv_iinc (pc := 30) (k := 0) (v := nI 0) hx hb d_M_put_30 hl rfl (by decide) (by decide) rfl (fun ls hl => ?_)
  have hl : lv_has ls 3 [(2, .int (nI 0)), (0, .ref (g 0)), (1, .int x)] := hl
  refine lv_goto (pc := 33) (tgt := 3) hx hb d_M_put_33 (by decide) ?_
  refine lv_iload_n (pc := 3) hx hb d_M_put_3 rfl (lv_at hl 0 rfl) ?_
  refine lv_if_lt (pc := 4) (tgt := 36) hx hb d_M_put_4 (by decide) (fun hc4 => absurd hc4 (by decide)) (fun _ => ?_)
  refine lv_aload_n (pc := 7) hx hb d_M_put_7 rfl (lv_at hl 1 rfl) ?_
  refine mg_tp (pc := 8) hC hw d_M_put_8 ?_
  refine lv_aload_n (pc := 11) hx hb d_M_put_11 rfl (lv_at hl 1 rfl) ?_
  refine mg_tl (pc := 12) hC hw d_M_put_12 ?_
  refine lv_iload_n (pc := 15) hx hb d_M_put_15 rfl (lv_at hl 2 rfl) ?_
  refine lv_iload_n (pc := 16) hx hb d_M_put_16 rfl (lv_at hl 0 rfl) ?_
  refine lv_ishr (pc := 17) hx hb d_M_put_17 ?_
  refine lv_i2b (pc := 18) hx hb d_M_put_18 rfl ?_
  refine g_top (y := bq x 0) (rfl) ?_
  refine ms_tp (pc := 19) (i := ((n + 1) + 1) + 1) (x := bq x 0) (by omega) (bq_ok x 0) hC hw d_M_put_19 (fun H locs hw => ?_)
  refine lv_aload_n (pc := 20) hx hb d_M_put_20 rfl (lv_at hl 1 rfl) ?_
  refine lv_dup (pc := 21) hx hb d_M_put_21 rfl ?_
  refine mg_tl (pc := 22) hC hw d_M_put_22 ?_
  refine lv_iconst (pc := 25) (v := nI 1) hx hb d_M_put_25 (by decide) ?_
  refine lv_iadd (pc := 26) hx hb d_M_put_26 ?_
  refine g_top (y := nI ((((n + 1) + 1) + 1) + 1)) (nI_add _ _) ?_
  refine mp_tl (pc := 27) hC hw d_M_put_27 (fun H locs hw => ?_)
  have hw : gH D (mw g k) A _ ((upd ((upd ((upd ((upd tp n (bq x 24))) (n + 1) (bq x 16))) ((n + 1) + 1) (bq x 8))) (((n + 1) + 1) + 1) (bq x 0)), (nI ((((n + 1) + 1) + 1) + 1)), tm, sz, ct, wd, wl, tb) H locs := hw
  refine lv_iinc (pc := 30) (k := 0) (v := (-8)) hx hb d_M_put_30 hl rfl (by decide) (by decide) rfl (fun ls hl => ?_)
  have hl : lv_has ls 3 [(2, .int ((-8))), (0, .ref (g 0)), (1, .int x)] := hl
  refine lv_goto (pc := 33) (tgt := 3) hx hb d_M_put_33 (by decide) ?_
  refine lv_iload_n (pc := 3) hx hb d_M_put_3 rfl (lv_at hl 0 rfl) ?_
  refine lv_if_lt (pc := 4) (tgt := 36) hx hb d_M_put_4 (by decide) (fun _ => ?_) (fun hc4 => absurd (by decide) hc4)
  exact hQ _ _ _ _ _ hw (rfl) d_M_put_36
set_option maxHeartbeats 4000000 in
set_option maxRecDepth 100000 in
theorem c_M_feed (l : Launch) (D : va_G) (g : Nat → Nat) (k : Nat → ClassId) (tp : Nat → Int32) (tm : Nat → Int32) (sz : Nat → Int32) (ct : Int32) (wd : Nat → Int32) (wl : Int32) (tb : Nat → Int32) {n : Nat} (v1 v2 v3 v4 v5 : Int32) (h : n ≤ 300) : gMi l y_M_feed (gW y_M_feed b_M_feed 6 (some .int)) (gR 1) D (mT k) (mw g k) [.ref (g 0), .int v1, .int v2, .int v3, .int v4, .int v5] (tp, (nI n), tm, sz, ct, wd, wl, tb) (fun r u => (300 < n + 20 ∧ r = -3 ∧ u = (tp, nI n, tm, sz, ct, wd, wl, tb)) ∨ (n + 20 ≤ 300 ∧ r = nI (n + 20) ∧ u = (p20 (fun b => b) tp n v1 v2 v3 v4 v5, nI (n + 20), tm, sz, ct, wd, wl, tb))) := by
  refine g_starti (by decide) (Nat.le_of_ble_eq_true rfl) ?_
  intro p ev s m args below meth cd A Q ls hC hQ hl hw
  have hx := hC.1.1
  have hb := hC.1.2.1
  have hl : lv_has ls 6 [(0, .ref (g 0)), (1, .int v1), (2, .int v2), (3, .int v3), (4, .int v4), (5, .int v5)] := hl
  refine lv_aload_n (pc := 0) hx hb d_M_feed_0 rfl (lv_at hl 0 rfl) ?_
  refine mg_tl (pc := 1) hC hw d_M_feed_1 ?_
  refine lv_bipush (pc := 4) (v := nI 20) hx hb d_M_feed_4 (by decide) ?_
  refine lv_iadd (pc := 6) hx hb d_M_feed_6 ?_
  refine g_top (y := nI (n + 20)) (nI_add _ _) ?_
  refine lv_sipush (pc := 7) (v := nI 300) hx hb d_M_feed_7 (by decide) ?_
  refine nc_le (pc := 10) (tgt := 16) hx hb d_M_feed_10 (by decide) (by omega) (by omega) (fun hc10 => ?_) (fun hc10 => ?_)
  · refine lv_aload_n (pc := 16) hx hb d_M_feed_16 rfl (lv_at hl 0 rfl) ?_
    refine lv_iload_n (pc := 17) hx hb d_M_feed_17 rfl (lv_at hl 1 rfl) ?_
    refine g_callv (pc := 18) (as := [.int v1]) (rest := []) hC hw (c_M_put l D g k (tp) tm sz ct wd wl tb (n := n) v1 (by omega)) lm_M_put f_M_put rfl rfl rfl rfl ⟨by decide, by decide⟩ hl.1 (Nat.le_of_ble_eq_true rfl) d_M_feed_18 (fun u1 H locs hp hw => ?_)
    subst hp
    refine lv_aload_n (pc := 21) hx hb d_M_feed_21 rfl (lv_at hl 0 rfl) ?_
    refine lv_iload_n (pc := 22) hx hb d_M_feed_22 rfl (lv_at hl 2 rfl) ?_
    refine g_callv (pc := 23) (as := [.int v2]) (rest := []) hC hw (c_M_put l D g k (p4 (fun b => b) (tp) (n) v1) tm sz ct wd wl tb (n := n + 4) v2 (by omega)) lm_M_put f_M_put rfl rfl rfl rfl ⟨by decide, by decide⟩ hl.1 (Nat.le_of_ble_eq_true rfl) d_M_feed_23 (fun u1 H locs hp hw => ?_)
    subst hp
    refine lv_aload_n (pc := 26) hx hb d_M_feed_26 rfl (lv_at hl 0 rfl) ?_
    refine lv_iload_n (pc := 27) hx hb d_M_feed_27 rfl (lv_at hl 3 rfl) ?_
    refine g_callv (pc := 28) (as := [.int v3]) (rest := []) hC hw (c_M_put l D g k (p4 (fun b => b) (p4 (fun b => b) (tp) (n) v1) (n + 4) v2) tm sz ct wd wl tb (n := n + 4 + 4) v3 (by omega)) lm_M_put f_M_put rfl rfl rfl rfl ⟨by decide, by decide⟩ hl.1 (Nat.le_of_ble_eq_true rfl) d_M_feed_28 (fun u1 H locs hp hw => ?_)
    subst hp
    refine lv_aload_n (pc := 31) hx hb d_M_feed_31 rfl (lv_at hl 0 rfl) ?_
    refine lv_iload (pc := 32) hx hb d_M_feed_32 (lv_at hl 4 rfl) ?_
    refine g_callv (pc := 34) (as := [.int v4]) (rest := []) hC hw (c_M_put l D g k (p4 (fun b => b) (p4 (fun b => b) (p4 (fun b => b) (tp) (n) v1) (n + 4) v2) (n + 4 + 4) v3) tm sz ct wd wl tb (n := n + 4 + 4 + 4) v4 (by omega)) lm_M_put f_M_put rfl rfl rfl rfl ⟨by decide, by decide⟩ hl.1 (Nat.le_of_ble_eq_true rfl) d_M_feed_34 (fun u1 H locs hp hw => ?_)
    subst hp
    refine lv_aload_n (pc := 37) hx hb d_M_feed_37 rfl (lv_at hl 0 rfl) ?_
    refine lv_iload (pc := 38) hx hb d_M_feed_38 (lv_at hl 5 rfl) ?_
    refine g_callv (pc := 40) (as := [.int v5]) (rest := []) hC hw (c_M_put l D g k (p4 (fun b => b) (p4 (fun b => b) (p4 (fun b => b) (p4 (fun b => b) (tp) (n) v1) (n + 4) v2) (n + 4 + 4) v3) (n + 4 + 4 + 4) v4) tm sz ct wd wl tb (n := n + 4 + 4 + 4 + 4) v5 (by omega)) lm_M_put f_M_put rfl rfl rfl rfl ⟨by decide, by decide⟩ hl.1 (Nat.le_of_ble_eq_true rfl) d_M_feed_40 (fun u1 H locs hp hw => ?_)
    subst hp
    refine lv_aload_n (pc := 43) hx hb d_M_feed_43 rfl (lv_at hl 0 rfl) ?_
    refine mg_tl (pc := 44) hC hw d_M_feed_44 ?_
    exact hQ _ _ _ _ _ _ hw (rfl) (Or.inr ⟨hc10, rfl, rfl⟩) d_M_feed_47
  · refine lv_bipush (pc := 13) (v := (-3)) hx hb d_M_feed_13 (by decide) ?_
    exact hQ _ _ _ _ _ _ hw (rfl) (Or.inl ⟨hc10, rfl, rfl⟩) d_M_feed_15
set_option maxHeartbeats 4000000 in
set_option maxRecDepth 100000 in
theorem c_M_end (l : Launch) (D : va_G) (g : Nat → Nat) (k : Nat → ClassId) (tp : Nat → Int32) (tl : Int32) (tm sz : Nat → Int32) (ct : Int32) (wd : Nat → Int32) (wl : Int32) (tb : Nat → Int32) (x : Int32) : gMi l y_M_end (gW y_M_end b_M_end 2 (some .int)) (gR 0) D (mT k) (mw g k) [.ref (g 0), .int x] (tp, tl, tm, sz, ct, wd, wl, tb) (fun r u => ((x < 0 ∨ tl < x) ∧ r = -1 ∧ u = (tp, tl, tm, sz, ct, wd, wl, tb)) ∨ (¬ x < 0 ∧ x ≤ tl ∧ r = x ∧ u = (tp, x, tm, sz, ct, wd, wl, tb))) := by
  refine g_starti (by decide) (Nat.le_of_ble_eq_true rfl) ?_
  intro p ev s m args below meth cd A Q ls hC hQ hl hw
  have hx := hC.1.1
  have hb := hC.1.2.1
  have hl : lv_has ls 2 [(0, .ref (g 0)), (1, .int x)] := hl
  refine lv_iload_n (pc := 0) hx hb d_M_end_0 rfl (lv_at hl 1 rfl) ?_
  refine lv_if_lt (pc := 1) (tgt := 12) hx hb d_M_end_1 (by decide) (fun hc1 => ?_) (fun hc1 => ?_)
  · refine lv_iconst (pc := 12) (v := (-1)) hx hb d_M_end_12 (by decide) ?_
    exact hQ _ _ _ _ _ _ hw (rfl) (Or.inl ⟨Or.inl hc1, rfl, rfl⟩) d_M_end_13
  · refine lv_iload_n (pc := 4) hx hb d_M_end_4 rfl (lv_at hl 1 rfl) ?_
    refine lv_aload_n (pc := 5) hx hb d_M_end_5 rfl (lv_at hl 0 rfl) ?_
    refine mg_tl (pc := 6) hC hw d_M_end_6 ?_
    refine lv_icmp_le (pc := 9) (tgt := 14) hx hb d_M_end_9 (by decide) (fun hc9 => ?_) (fun hc9 => ?_)
    · refine lv_aload_n (pc := 14) hx hb d_M_end_14 rfl (lv_at hl 0 rfl) ?_
      refine lv_iload_n (pc := 15) hx hb d_M_end_15 rfl (lv_at hl 1 rfl) ?_
      refine mp_tl (pc := 16) hC hw d_M_end_16 (fun H locs hw => ?_)
      have hw : gH D (mw g k) A _ (tp, x, tm, sz, ct, wd, wl, tb) H locs := hw
      refine lv_iload_n (pc := 19) hx hb d_M_end_19 rfl (lv_at hl 1 rfl) ?_
      exact hQ _ _ _ _ _ _ hw (rfl) (Or.inr ⟨hc1, hc9, rfl, rfl⟩) d_M_end_20
    · refine lv_iconst (pc := 12) (v := (-1)) hx hb d_M_end_12 (by decide) ?_
      exact hQ _ _ _ _ _ _ hw (rfl) (Or.inl ⟨Or.inr (Int32.not_le.mp hc9), rfl, rfl⟩) d_M_end_13
theorem lt_y {b : Int32} (h : (48 ≤ b ∧ b ≤ 57) ∨ (65 ≤ b ∧ b ≤ 90) ∨ (97 ≤ b ∧ b ≤ 122)) : (1 : Int32) = bI (ltr b) := by
  unfold bI ltr
  rw [if_pos (decide_eq_true h)]
theorem lt_n {b : Int32} (h : ¬ ((48 ≤ b ∧ b ≤ 57) ∨ (65 ≤ b ∧ b ≤ 90) ∨ (97 ≤ b ∧ b ≤ 122))) : (0 : Int32) = bI (ltr b) := by
  unfold bI ltr
  rw [if_neg (fun q => h (of_decide_eq_true q))]
set_option maxHeartbeats 4000000 in
set_option maxRecDepth 100000 in
theorem c_M_letter (l : Launch) (D : va_G) (b : Int32) : gMs l y_M_letter (gW y_M_letter b_M_letter 1 (some .boolean)) (gR 0) D [.int b] (bI (ltr b)) := by
  refine g_starti (by decide) (Nat.le_of_ble_eq_true rfl) ?_
  intro p ev s m args below meth cd A Q ls hC hQ hl hw
  have hx := hC.1.1
  have hb := hC.1.2.1
  have hl : lv_has ls 1 [(0, .int b)] := hl
  refine lv_iload_n (pc := 0) hx hb d_M_letter_0 rfl (lv_at hl 0 rfl) ?_
  refine lv_bipush (pc := 1) (v := 48) hx hb d_M_letter_1 (by decide) ?_
  refine lv_icmp_lt (pc := 3) (tgt := 12) hx hb d_M_letter_3 (by decide) (fun hc3 => ?_) (fun hc3 => ?_)
  · refine lv_iload_n (pc := 12) hx hb d_M_letter_12 rfl (lv_at hl 0 rfl) ?_
    refine lv_bipush (pc := 13) (v := 65) hx hb d_M_letter_13 (by decide) ?_
    refine lv_icmp_lt (pc := 15) (tgt := 24) hx hb d_M_letter_15 (by decide) (fun hc15 => ?_) (fun hc15 => ?_)
    · refine lv_iload_n (pc := 24) hx hb d_M_letter_24 rfl (lv_at hl 0 rfl) ?_
      refine lv_bipush (pc := 25) (v := 97) hx hb d_M_letter_25 (by decide) ?_
      refine lv_icmp_lt (pc := 27) (tgt := 40) hx hb d_M_letter_27 (by decide) (fun hc27 => ?_) (fun hc27 => ?_)
      · refine lv_iconst (pc := 40) (v := 0) hx hb d_M_letter_40 (by decide) ?_
        exact hQ _ _ _ _ _ _ hw (rfl) (lt_n (fun q => q.elim (fun z => nl hc3 z.1) (fun q => q.elim (fun z => nl hc15 z.1) (fun z => nl hc27 z.1)))) d_M_letter_41
      · refine lv_iload_n (pc := 30) hx hb d_M_letter_30 rfl (lv_at hl 0 rfl) ?_
        refine lv_bipush (pc := 31) (v := 122) hx hb d_M_letter_31 (by decide) ?_
        refine lv_icmp_gt (pc := 33) (tgt := 40) hx hb d_M_letter_33 (by decide) (fun hc33 => ?_) (fun hc33 => ?_)
        · refine lv_iconst (pc := 40) (v := 0) hx hb d_M_letter_40 (by decide) ?_
          exact hQ _ _ _ _ _ _ hw (rfl) (lt_n (fun q => q.elim (fun z => nl hc3 z.1) (fun q => q.elim (fun z => nl hc15 z.1) (fun z => nl hc33 z.2)))) d_M_letter_41
        · refine lv_iconst (pc := 36) (v := 1) hx hb d_M_letter_36 (by decide) ?_
          refine lv_goto (pc := 37) (tgt := 41) hx hb d_M_letter_37 (by decide) ?_
          exact hQ _ _ _ _ _ _ hw (rfl) (lt_y (Or.inr (Or.inr ⟨Int32.not_lt.mp hc27, Int32.not_lt.mp hc33⟩))) d_M_letter_41
    · refine lv_iload_n (pc := 18) hx hb d_M_letter_18 rfl (lv_at hl 0 rfl) ?_
      refine lv_bipush (pc := 19) (v := 90) hx hb d_M_letter_19 (by decide) ?_
      refine lv_icmp_le (pc := 21) (tgt := 36) hx hb d_M_letter_21 (by decide) (fun hc21 => ?_) (fun hc21 => ?_)
      · refine lv_iconst (pc := 36) (v := 1) hx hb d_M_letter_36 (by decide) ?_
        refine lv_goto (pc := 37) (tgt := 41) hx hb d_M_letter_37 (by decide) ?_
        exact hQ _ _ _ _ _ _ hw (rfl) (lt_y (Or.inr (Or.inl ⟨Int32.not_lt.mp hc15, hc21⟩))) d_M_letter_41
      · refine lv_iload_n (pc := 24) hx hb d_M_letter_24 rfl (lv_at hl 0 rfl) ?_
        refine lv_bipush (pc := 25) (v := 97) hx hb d_M_letter_25 (by decide) ?_
        refine lv_icmp_lt (pc := 27) (tgt := 40) hx hb d_M_letter_27 (by decide) (fun hc27 => ?_) (fun hc27 => ?_)
        · refine lv_iconst (pc := 40) (v := 0) hx hb d_M_letter_40 (by decide) ?_
          exact hQ _ _ _ _ _ _ hw (rfl) (lt_n (fun q => q.elim (fun z => nl hc3 z.1) (fun q => q.elim (fun z => hc21 z.2) (fun z => nl hc27 z.1)))) d_M_letter_41
        · refine lv_iload_n (pc := 30) hx hb d_M_letter_30 rfl (lv_at hl 0 rfl) ?_
          refine lv_bipush (pc := 31) (v := 122) hx hb d_M_letter_31 (by decide) ?_
          refine lv_icmp_gt (pc := 33) (tgt := 40) hx hb d_M_letter_33 (by decide) (fun hc33 => ?_) (fun hc33 => ?_)
          · refine lv_iconst (pc := 40) (v := 0) hx hb d_M_letter_40 (by decide) ?_
            exact hQ _ _ _ _ _ _ hw (rfl) (lt_n (fun q => q.elim (fun z => nl hc3 z.1) (fun q => q.elim (fun z => hc21 z.2) (fun z => nl hc33 z.2)))) d_M_letter_41
          · refine lv_iconst (pc := 36) (v := 1) hx hb d_M_letter_36 (by decide) ?_
            refine lv_goto (pc := 37) (tgt := 41) hx hb d_M_letter_37 (by decide) ?_
            exact hQ _ _ _ _ _ _ hw (rfl) (lt_y (Or.inr (Or.inr ⟨Int32.not_lt.mp hc27, Int32.not_lt.mp hc33⟩))) d_M_letter_41
  · refine lv_iload_n (pc := 6) hx hb d_M_letter_6 rfl (lv_at hl 0 rfl) ?_
    refine lv_bipush (pc := 7) (v := 57) hx hb d_M_letter_7 (by decide) ?_
    refine lv_icmp_le (pc := 9) (tgt := 36) hx hb d_M_letter_9 (by decide) (fun hc9 => ?_) (fun hc9 => ?_)
    · refine lv_iconst (pc := 36) (v := 1) hx hb d_M_letter_36 (by decide) ?_
      refine lv_goto (pc := 37) (tgt := 41) hx hb d_M_letter_37 (by decide) ?_
      exact hQ _ _ _ _ _ _ hw (rfl) (lt_y (Or.inl ⟨Int32.not_lt.mp hc3, hc9⟩)) d_M_letter_41
    · refine lv_iload_n (pc := 12) hx hb d_M_letter_12 rfl (lv_at hl 0 rfl) ?_
      refine lv_bipush (pc := 13) (v := 65) hx hb d_M_letter_13 (by decide) ?_
      refine lv_icmp_lt (pc := 15) (tgt := 24) hx hb d_M_letter_15 (by decide) (fun hc15 => ?_) (fun hc15 => ?_)
      · refine lv_iload_n (pc := 24) hx hb d_M_letter_24 rfl (lv_at hl 0 rfl) ?_
        refine lv_bipush (pc := 25) (v := 97) hx hb d_M_letter_25 (by decide) ?_
        refine lv_icmp_lt (pc := 27) (tgt := 40) hx hb d_M_letter_27 (by decide) (fun hc27 => ?_) (fun hc27 => ?_)
        · refine lv_iconst (pc := 40) (v := 0) hx hb d_M_letter_40 (by decide) ?_
          exact hQ _ _ _ _ _ _ hw (rfl) (lt_n (fun q => q.elim (fun z => hc9 z.2) (fun q => q.elim (fun z => nl hc15 z.1) (fun z => nl hc27 z.1)))) d_M_letter_41
        · refine lv_iload_n (pc := 30) hx hb d_M_letter_30 rfl (lv_at hl 0 rfl) ?_
          refine lv_bipush (pc := 31) (v := 122) hx hb d_M_letter_31 (by decide) ?_
          refine lv_icmp_gt (pc := 33) (tgt := 40) hx hb d_M_letter_33 (by decide) (fun hc33 => ?_) (fun hc33 => ?_)
          · refine lv_iconst (pc := 40) (v := 0) hx hb d_M_letter_40 (by decide) ?_
            exact hQ _ _ _ _ _ _ hw (rfl) (lt_n (fun q => q.elim (fun z => hc9 z.2) (fun q => q.elim (fun z => nl hc15 z.1) (fun z => nl hc33 z.2)))) d_M_letter_41
          · refine lv_iconst (pc := 36) (v := 1) hx hb d_M_letter_36 (by decide) ?_
            refine lv_goto (pc := 37) (tgt := 41) hx hb d_M_letter_37 (by decide) ?_
            exact hQ _ _ _ _ _ _ hw (rfl) (lt_y (Or.inr (Or.inr ⟨Int32.not_lt.mp hc27, Int32.not_lt.mp hc33⟩))) d_M_letter_41
      · refine lv_iload_n (pc := 18) hx hb d_M_letter_18 rfl (lv_at hl 0 rfl) ?_
        refine lv_bipush (pc := 19) (v := 90) hx hb d_M_letter_19 (by decide) ?_
        refine lv_icmp_le (pc := 21) (tgt := 36) hx hb d_M_letter_21 (by decide) (fun hc21 => ?_) (fun hc21 => ?_)
        · refine lv_iconst (pc := 36) (v := 1) hx hb d_M_letter_36 (by decide) ?_
          refine lv_goto (pc := 37) (tgt := 41) hx hb d_M_letter_37 (by decide) ?_
          exact hQ _ _ _ _ _ _ hw (rfl) (lt_y (Or.inr (Or.inl ⟨Int32.not_lt.mp hc15, hc21⟩))) d_M_letter_41
        · refine lv_iload_n (pc := 24) hx hb d_M_letter_24 rfl (lv_at hl 0 rfl) ?_
          refine lv_bipush (pc := 25) (v := 97) hx hb d_M_letter_25 (by decide) ?_
          refine lv_icmp_lt (pc := 27) (tgt := 40) hx hb d_M_letter_27 (by decide) (fun hc27 => ?_) (fun hc27 => ?_)
          · refine lv_iconst (pc := 40) (v := 0) hx hb d_M_letter_40 (by decide) ?_
            exact hQ _ _ _ _ _ _ hw (rfl) (lt_n (fun q => q.elim (fun z => hc9 z.2) (fun q => q.elim (fun z => hc21 z.2) (fun z => nl hc27 z.1)))) d_M_letter_41
          · refine lv_iload_n (pc := 30) hx hb d_M_letter_30 rfl (lv_at hl 0 rfl) ?_
            refine lv_bipush (pc := 31) (v := 122) hx hb d_M_letter_31 (by decide) ?_
            refine lv_icmp_gt (pc := 33) (tgt := 40) hx hb d_M_letter_33 (by decide) (fun hc33 => ?_) (fun hc33 => ?_)
            · refine lv_iconst (pc := 40) (v := 0) hx hb d_M_letter_40 (by decide) ?_
              exact hQ _ _ _ _ _ _ hw (rfl) (lt_n (fun q => q.elim (fun z => hc9 z.2) (fun q => q.elim (fun z => hc21 z.2) (fun z => nl hc33 z.2)))) d_M_letter_41
            · refine lv_iconst (pc := 36) (v := 1) hx hb d_M_letter_36 (by decide) ?_
              refine lv_goto (pc := 37) (tgt := 41) hx hb d_M_letter_37 (by decide) ?_
              exact hQ _ _ _ _ _ _ hw (rfl) (lt_y (Or.inr (Or.inr ⟨Int32.not_lt.mp hc27, Int32.not_lt.mp hc33⟩))) d_M_letter_41
set_option maxHeartbeats 4000000 in
set_option maxRecDepth 100000 in
theorem c_M_is_n (l : Launch) (D : va_G) (g : Nat → Nat) (k : Nat → ClassId) (tp : Nat → Int32) (tl : Int32) (tm sz : Nat → Int32) (ct : Int32) (wd : Nat → Int32) (wl : Int32) (tb : Nat → Int32) {x : Int32} (h : x < 0 ∨ ct ≤ x) : gMi l y_M_is (gW y_M_is b_M_is 2 (some .boolean)) (gR 0) D (mT k) (mw g k) [.ref (g 0), .int x] (tp, tl, tm, sz, ct, wd, wl, tb) (fun r u => r = 0 ∧ u = (tp, tl, tm, sz, ct, wd, wl, tb)) := by
  refine g_starti (by decide) (Nat.le_of_ble_eq_true rfl) ?_
  intro p ev s m args below meth cd A Q ls hC hQ hl hw
  have hx := hC.1.1
  have hb := hC.1.2.1
  have hl : lv_has ls 2 [(0, .ref (g 0)), (1, .int x)] := hl
  refine lv_iload_n (pc := 0) hx hb d_M_is_0 rfl (lv_at hl 1 rfl) ?_
  refine lv_if_lt (pc := 1) (tgt := 16) hx hb d_M_is_1 (by decide) (fun hc1 => ?_) (fun hc1 => ?_)
  · refine lv_iconst (pc := 16) (v := 0) hx hb d_M_is_16 (by decide) ?_
    exact hQ _ _ _ _ _ _ hw (rfl) (⟨rfl, rfl⟩) d_M_is_17
  · refine lv_iload_n (pc := 4) hx hb d_M_is_4 rfl (lv_at hl 1 rfl) ?_
    refine lv_aload_n (pc := 5) hx hb d_M_is_5 rfl (lv_at hl 0 rfl) ?_
    refine mg_ct (pc := 6) hC hw d_M_is_6 ?_
    refine lv_icmp_ge (pc := 9) (tgt := 16) hx hb d_M_is_9 (by decide) (fun hc9 => ?_) (fun hc9 => ?_)
    · refine lv_iconst (pc := 16) (v := 0) hx hb d_M_is_16 (by decide) ?_
      exact hQ _ _ _ _ _ _ hw (rfl) (⟨rfl, rfl⟩) d_M_is_17
    · exact (h.elim hc1 hc9).elim
set_option maxHeartbeats 4000000 in
set_option maxRecDepth 100000 in
theorem c_M_is_y (l : Launch) (D : va_G) (g : Nat → Nat) (k : Nat → ClassId) (tp : Nat → Int32) (tl : Int32) (tm : Nat → Int32) (sz : Nat → Int32) (wd : Nat → Int32) (wl : Int32) (tb : Nat → Int32) {j c : Nat} (h : j < c) (hc : c ≤ 150) : gMi l y_M_is (gW y_M_is b_M_is 2 (some .boolean)) (gR 0) D (mT k) (mw g k) [.ref (g 0), .int (nI j)] (tp, tl, tm, sz, (nI c), wd, wl, tb) (fun r u => r = 1 ∧ u = (tp, tl, tm, sz, (nI c), wd, wl, tb)) := by
  refine g_starti (by decide) (Nat.le_of_ble_eq_true rfl) ?_
  intro p ev s m args below meth cd A Q ls hC hQ hl hw
  have hx := hC.1.1
  have hb := hC.1.2.1
  have hl : lv_has ls 2 [(0, .ref (g 0)), (1, .int (nI j))] := hl
  refine lv_iload_n (pc := 0) hx hb d_M_is_0 rfl (lv_at hl 1 rfl) ?_
  refine lv_if_lt (pc := 1) (tgt := 16) hx hb d_M_is_1 (by decide) (fun hc1 => ?_) (fun hc1 => ?_)
  · exact absurd hc1 (nI_pos (by omega))
  · refine lv_iload_n (pc := 4) hx hb d_M_is_4 rfl (lv_at hl 1 rfl) ?_
    refine lv_aload_n (pc := 5) hx hb d_M_is_5 rfl (lv_at hl 0 rfl) ?_
    refine mg_ct (pc := 6) hC hw d_M_is_6 ?_
    refine nc_ge (pc := 9) (tgt := 16) hx hb d_M_is_9 (by decide) (by omega) (by omega) (fun hc9 => ?_) (fun hc9 => ?_)
    · omega
    · refine lv_iconst (pc := 12) (v := nI 1) hx hb d_M_is_12 (by decide) ?_
      refine lv_goto (pc := 13) (tgt := 17) hx hb d_M_is_13 (by decide) ?_
      exact hQ _ _ _ _ _ _ hw (rfl) (⟨rfl, rfl⟩) d_M_is_17
