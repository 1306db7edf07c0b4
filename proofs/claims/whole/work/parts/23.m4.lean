set_option maxHeartbeats 4000000 in
set_option maxRecDepth 100000 in
theorem c_M_sign (l : Launch) (D : va_G) (g : Nat → Nat) (k : Nat → ClassId) (tp : Nat → Int32) (tl : Int32) (tm : Nat → Int32) (sz : Nat → Int32) (wd : Nat → Int32) (wl : Int32) (tb : Nat → Int32) (x y : Int32) {ts : List Tm} (ht : tok ts tm sz) (hlen : ts.length ≤ 150) : gMi l y_M_sign (gW y_M_sign b_M_sign 3 (some .int)) (gR 1) D (mT k) (mw g k) [.ref (g 0), .int x, .int y] (tp, tl, tm, sz, (nI ts.length), wd, wl, tb) (fun r u => r = asg ts x y ∧ u = (tp, tl, tm, sz, (nI ts.length), wd, wl, tb)) := by
  rcases hasT_cases ts x hlen with ⟨hT, hk⟩ | ⟨j, T, hj, rfl, hj2, hT⟩
  · refine g_starti (by decide) (Nat.le_of_ble_eq_true rfl) ?_
    intro p ev s m args below meth cd A Q ls hC hQ hl hw
    have hx := hC.1.1
    have hb := hC.1.2.1
    have hl : lv_has ls 3 [(0, .ref (g 0)), (1, .int x), (2, .int y)] := hl
    refine lv_aload_n (pc := 0) hx hb d_M_sign_0 rfl (lv_at hl 0 rfl) ?_
    refine lv_iload_n (pc := 1) hx hb d_M_sign_1 rfl (lv_at hl 1 rfl) ?_
    refine g_calli (pc := 2) (as := [.int x]) (rest := []) hC hw (c_M_is_n l D g k tp tl tm sz _ wd wl tb hk) lm_M_is f_M_is rfl rfl rfl rfl ⟨by decide, by decide⟩ hl.1 (Nat.le_of_ble_eq_true rfl) d_M_sign_2 (fun r u1 H locs hp hw => ?_)
    obtain ⟨rfl, rfl⟩ := hp
    refine lv_if_eq (pc := 5) (tgt := 23) hx hb d_M_sign_5 (by decide) (fun hc5 => ?_) (fun hc5 => ?_)
    · refine lv_bipush (pc := 23) (v := (-2)) hx hb d_M_sign_23 (by decide) ?_
      exact hQ _ _ _ _ _ _ hw (rfl) (⟨asg_none hT, rfl⟩) d_M_sign_25
    · exact absurd rfl hc5
  · refine g_starti (by decide) (Nat.le_of_ble_eq_true rfl) ?_
    intro p ev s m args below meth cd A Q ls hC hQ hl hw
    have hx := hC.1.1
    have hb := hC.1.2.1
    have hl : lv_has ls 3 [(0, .ref (g 0)), (1, .int (nI j)), (2, .int y)] := hl
    obtain ⟨t1, t2, t3⟩ := ht j T hj2
    refine lv_aload_n (pc := 0) hx hb d_M_sign_0 rfl (lv_at hl 0 rfl) ?_
    refine lv_iload_n (pc := 1) hx hb d_M_sign_1 rfl (lv_at hl 1 rfl) ?_
    refine g_calli (pc := 2) (as := [.int (nI j)]) (rest := []) hC hw (c_M_is_y l D g k tp tl tm sz wd wl tb hj hlen) lm_M_is f_M_is rfl rfl rfl rfl ⟨by decide, by decide⟩ hl.1 (Nat.le_of_ble_eq_true rfl) d_M_sign_2 (fun r u1 H locs hp hw => ?_)
    obtain ⟨rfl, rfl⟩ := hp
    refine lv_if_eq (pc := 5) (tgt := 23) hx hb d_M_sign_5 (by decide) (fun hc5 => ?_) (fun hc5 => ?_)
    · exact absurd hc5 (by decide)
    · refine lv_iload_n (pc := 8) hx hb d_M_sign_8 rfl (lv_at hl 2 rfl) ?_
      refine lv_iconst (pc := 9) (v := (-1)) hx hb d_M_sign_9 (by decide) ?_
      refine lv_icmp_lt (pc := 10) (tgt := 23) hx hb d_M_sign_10 (by decide) (fun hc10 => ?_) (fun hc10 => ?_)
      · refine lv_bipush (pc := 23) (v := (-2)) hx hb d_M_sign_23 (by decide) ?_
        exact hQ _ _ _ _ _ _ hw (rfl) (⟨asg_lo hT hc10, rfl⟩) d_M_sign_25
      · refine lv_iload_n (pc := 13) hx hb d_M_sign_13 rfl (lv_at hl 2 rfl) ?_
        refine lv_aload_n (pc := 14) hx hb d_M_sign_14 rfl (lv_at hl 0 rfl) ?_
        refine mg_sz (pc := 15) hC hw d_M_sign_15 ?_
        refine lv_iload_n (pc := 18) hx hb d_M_sign_18 rfl (lv_at hl 1 rfl) ?_
        refine ml_sz (pc := 19) (i := j) (by omega) hC hw d_M_sign_19 ?_
        refine g_top (y := nI T.1) (t2) ?_
        refine lv_icmp_lt (pc := 20) (tgt := 26) hx hb d_M_sign_20 (by decide) (fun hc20 => ?_) (fun hc20 => ?_)
        · refine lv_iload_n (pc := 26) hx hb d_M_sign_26 rfl (lv_at hl 2 rfl) ?_
          refine lv_iconst (pc := 27) (v := (-1)) hx hb d_M_sign_27 (by decide) ?_
          refine lv_icmp_ne (pc := 28) (tgt := 40) hx hb d_M_sign_28 (by decide) (fun hc28 => ?_) (fun hc28 => ?_)
          · obtain ⟨z, hz, rfl⟩ := nI_of (ge0 hc10 hc28)
            have hz2 : z < T.1 := (nI_ltI hz (by omega)).mp hc20
            refine lv_aload_n (pc := 40) hx hb d_M_sign_40 rfl (lv_at hl 0 rfl) ?_
            refine mg_tm (pc := 41) hC hw d_M_sign_41 ?_
            refine lv_bipush (pc := 44) (v := nI 24) hx hb d_M_sign_44 (by decide) ?_
            refine lv_iload_n (pc := 46) hx hb d_M_sign_46 rfl (lv_at hl 1 rfl) ?_
            refine lv_imul (pc := 47) hx hb d_M_sign_47 ?_
            refine g_top (y := nI (24 * j)) (pk_mul _ _) ?_
            refine lv_iload_n (pc := 48) hx hb d_M_sign_48 rfl (lv_at hl 2 rfl) ?_
            refine lv_iadd (pc := 49) hx hb d_M_sign_49 ?_
            refine g_top (y := nI ((24 * j) + z)) (nI_add _ _) ?_
            refine ml_tm (pc := 50) (i := (24 * j) + z) (by omega) hC hw d_M_sign_50 ?_
            refine g_top (y := T.2 z) (t3 z hz2) ?_
            exact hQ _ _ _ _ _ _ hw (rfl) (⟨(congrArg T.2 (nI_clamp hz).symm).trans (asg_in hT hc10 (Int32.not_le.mpr hc20) hc28), rfl⟩) d_M_sign_51
          · refine lv_aload_n (pc := 31) hx hb d_M_sign_31 rfl (lv_at hl 0 rfl) ?_
            refine mg_sz (pc := 32) hC hw d_M_sign_32 ?_
            refine lv_iload_n (pc := 35) hx hb d_M_sign_35 rfl (lv_at hl 1 rfl) ?_
            refine ml_sz (pc := 36) (i := j) (by omega) hC hw d_M_sign_36 ?_
            refine g_top (y := nI T.1) (t2) ?_
            refine lv_goto (pc := 37) (tgt := 51) hx hb d_M_sign_37 (by decide) ?_
            exact hQ _ _ _ _ _ _ hw (rfl) (⟨asg_len hT hc10 (Int32.not_le.mpr hc20) hc28, rfl⟩) d_M_sign_51
        · refine lv_bipush (pc := 23) (v := (-2)) hx hb d_M_sign_23 (by decide) ?_
          exact hQ _ _ _ _ _ _ hw (rfl) (⟨asg_hi hT hc10 (Int32.not_lt.mp hc20), rfl⟩) d_M_sign_25
set_option maxHeartbeats 4000000 in
set_option maxRecDepth 100000 in
theorem c_M_order (l : Launch) (D : va_G) (g : Nat → Nat) (k : Nat → ClassId) (tp : Nat → Int32) (tl : Int32) (tm sz : Nat → Int32) (ct : Int32) (wd : Nat → Int32) (wl : Int32) (tb : Nat → Int32) {a b : Nat} {T V : Tm} (ha : a < 151) (hb0 : b < 151) (hT : tat tm sz a T) (hV : tat tm sz b V) : gMi l y_M_order (gW y_M_order b_M_order 4 (some .int)) (gR 0) D (mT k) (mw g k) [.ref (g 0), .int (nI a), .int (nI b)] (tp, tl, tm, sz, ct, wd, wl, tb) (fun r u => r = od T V ∧ u = (tp, tl, tm, sz, ct, wd, wl, tb)) := by
  refine g_starti (by decide) (Nat.le_of_ble_eq_true rfl) ?_
  intro p ev s m args below meth cd A Q ls hC hQ hl hw
  have hx := hC.1.1
  have hb := hC.1.2.1
  have hl : lv_has ls 4 [(0, .ref (g 0)), (1, .int (nI a)), (2, .int (nI b))] := hl
  obtain ⟨t1, t2, t3⟩ := hT
  obtain ⟨v1, v2, v3⟩ := hV
  refine lv_iconst (pc := 0) (v := nI 0) hx hb d_M_order_0 (by decide) ?_
  refine lv_istore_n (pc := 1) hx hb d_M_order_1 rfl hl (by decide) rfl (fun ls hl => ?_)
  have hl : lv_has ls 4 [(3, .int (nI 0)), (0, .ref (g 0)), (1, .int (nI a)), (2, .int (nI b))] := hl
  have lp : ∀ (fu : Nat) (i : Nat) (ls : Array Slot) (H : Heap) (locs : List Loc), min T.1 V.1 - i < fu → lv_has ls 4 [(0, .ref (g 0)), (1, .int (nI a)), (2, .int (nI b)), (3, .int (nI i))] → gH D (mw g k) A s.heap (tp, tl, tm, sz, ct, wd, wl, tb) H locs → (i ≤ min T.1 V.1) → (odr T.2 V.2 T.1 V.1 (min T.1 V.1 - i) i = od T V) → W p l ev (gR 0) s m args below meth cd H locs 0 0 Q (F0 m 2 ls []) := by
    intro fu
    induction fu with
    | zero => intro i ls H locs hn hl hw hi ho; exact absurd hn (Nat.not_lt_zero _)
    | succ fu ih =>
      intro i ls H locs hn hl hw hi ho
      refine lv_iload_n (pc := 2) hx hb d_M_order_2 rfl (lv_at hl 3 rfl) ?_
      refine lv_aload_n (pc := 3) hx hb d_M_order_3 rfl (lv_at hl 0 rfl) ?_
      refine mg_sz (pc := 4) hC hw d_M_order_4 ?_
      refine lv_iload_n (pc := 7) hx hb d_M_order_7 rfl (lv_at hl 1 rfl) ?_
      refine ml_sz (pc := 8) (i := a) (by omega) hC hw d_M_order_8 ?_
      refine g_top (y := nI T.1) (t2) ?_
      refine nc_ge (pc := 9) (tgt := 84) hx hb d_M_order_9 (by decide) (by omega) (by omega) (fun hc9 => ?_) (fun hc9 => ?_)
      · have ei : i = min T.1 V.1 := by omega
        subst ei
        rw [Nat.sub_self] at ho
        unfold odr at ho
        refine lv_aload_n (pc := 84) hx hb d_M_order_84 rfl (lv_at hl 0 rfl) ?_
        refine mg_sz (pc := 85) hC hw d_M_order_85 ?_
        refine lv_iload_n (pc := 88) hx hb d_M_order_88 rfl (lv_at hl 1 rfl) ?_
        refine ml_sz (pc := 89) (i := a) (by omega) hC hw d_M_order_89 ?_
        refine g_top (y := nI T.1) (t2) ?_
        refine lv_aload_n (pc := 90) hx hb d_M_order_90 rfl (lv_at hl 0 rfl) ?_
        refine mg_sz (pc := 91) hC hw d_M_order_91 ?_
        refine lv_iload_n (pc := 94) hx hb d_M_order_94 rfl (lv_at hl 2 rfl) ?_
        refine ml_sz (pc := 95) (i := b) (by omega) hC hw d_M_order_95 ?_
        refine g_top (y := nI V.1) (v2) ?_
        refine nc_ge (pc := 96) (tgt := 103) hx hb d_M_order_96 (by decide) (by omega) (by omega) (fun hc96 => ?_) (fun hc96 => ?_)
        · refine lv_aload_n (pc := 103) hx hb d_M_order_103 rfl (lv_at hl 0 rfl) ?_
          refine mg_sz (pc := 104) hC hw d_M_order_104 ?_
          refine lv_iload_n (pc := 107) hx hb d_M_order_107 rfl (lv_at hl 1 rfl) ?_
          refine ml_sz (pc := 108) (i := a) (by omega) hC hw d_M_order_108 ?_
          refine g_top (y := nI T.1) (t2) ?_
          refine lv_aload_n (pc := 109) hx hb d_M_order_109 rfl (lv_at hl 0 rfl) ?_
          refine mg_sz (pc := 110) hC hw d_M_order_110 ?_
          refine lv_iload_n (pc := 113) hx hb d_M_order_113 rfl (lv_at hl 2 rfl) ?_
          refine ml_sz (pc := 114) (i := b) (by omega) hC hw d_M_order_114 ?_
          refine g_top (y := nI V.1) (v2) ?_
          refine nc_le (pc := 115) (tgt := 122) hx hb d_M_order_115 (by decide) (by omega) (by omega) (fun hc115 => ?_) (fun hc115 => ?_)
          · refine lv_iconst (pc := 122) (v := 0) hx hb d_M_order_122 (by decide) ?_
            exact hQ _ _ _ _ _ _ hw (rfl) (⟨by rw [← ho, if_neg (by omega), if_neg (by omega)], rfl⟩) d_M_order_123
          · refine lv_iconst (pc := 118) (v := 1) hx hb d_M_order_118 (by decide) ?_
            refine lv_goto (pc := 119) (tgt := 123) hx hb d_M_order_119 (by decide) ?_
            exact hQ _ _ _ _ _ _ hw (rfl) (⟨by rw [← ho, if_neg (by omega), if_pos (by omega)], rfl⟩) d_M_order_123
        · refine lv_iconst (pc := 99) (v := (-1)) hx hb d_M_order_99 (by decide) ?_
          refine lv_goto (pc := 100) (tgt := 123) hx hb d_M_order_100 (by decide) ?_
          exact hQ _ _ _ _ _ _ hw (rfl) (⟨by rw [← ho, if_pos hc96], rfl⟩) d_M_order_123
      · refine lv_iload_n (pc := 12) hx hb d_M_order_12 rfl (lv_at hl 3 rfl) ?_
        refine lv_aload_n (pc := 13) hx hb d_M_order_13 rfl (lv_at hl 0 rfl) ?_
        refine mg_sz (pc := 14) hC hw d_M_order_14 ?_
        refine lv_iload_n (pc := 17) hx hb d_M_order_17 rfl (lv_at hl 2 rfl) ?_
        refine ml_sz (pc := 18) (i := b) (by omega) hC hw d_M_order_18 ?_
        refine g_top (y := nI V.1) (v2) ?_
        refine nc_ge (pc := 19) (tgt := 84) hx hb d_M_order_19 (by decide) (by omega) (by omega) (fun hc19 => ?_) (fun hc19 => ?_)
        · have ei : i = min T.1 V.1 := by omega
          subst ei
          rw [Nat.sub_self] at ho
          unfold odr at ho
          refine lv_aload_n (pc := 84) hx hb d_M_order_84 rfl (lv_at hl 0 rfl) ?_
          refine mg_sz (pc := 85) hC hw d_M_order_85 ?_
          refine lv_iload_n (pc := 88) hx hb d_M_order_88 rfl (lv_at hl 1 rfl) ?_
          refine ml_sz (pc := 89) (i := a) (by omega) hC hw d_M_order_89 ?_
          refine g_top (y := nI T.1) (t2) ?_
          refine lv_aload_n (pc := 90) hx hb d_M_order_90 rfl (lv_at hl 0 rfl) ?_
          refine mg_sz (pc := 91) hC hw d_M_order_91 ?_
          refine lv_iload_n (pc := 94) hx hb d_M_order_94 rfl (lv_at hl 2 rfl) ?_
          refine ml_sz (pc := 95) (i := b) (by omega) hC hw d_M_order_95 ?_
          refine g_top (y := nI V.1) (v2) ?_
          refine nc_ge (pc := 96) (tgt := 103) hx hb d_M_order_96 (by decide) (by omega) (by omega) (fun hc96 => ?_) (fun hc96 => ?_)
          · refine lv_aload_n (pc := 103) hx hb d_M_order_103 rfl (lv_at hl 0 rfl) ?_
            refine mg_sz (pc := 104) hC hw d_M_order_104 ?_
            refine lv_iload_n (pc := 107) hx hb d_M_order_107 rfl (lv_at hl 1 rfl) ?_
            refine ml_sz (pc := 108) (i := a) (by omega) hC hw d_M_order_108 ?_
            refine g_top (y := nI T.1) (t2) ?_
            refine lv_aload_n (pc := 109) hx hb d_M_order_109 rfl (lv_at hl 0 rfl) ?_
            refine mg_sz (pc := 110) hC hw d_M_order_110 ?_
            refine lv_iload_n (pc := 113) hx hb d_M_order_113 rfl (lv_at hl 2 rfl) ?_
            refine ml_sz (pc := 114) (i := b) (by omega) hC hw d_M_order_114 ?_
            refine g_top (y := nI V.1) (v2) ?_
            refine nc_le (pc := 115) (tgt := 122) hx hb d_M_order_115 (by decide) (by omega) (by omega) (fun hc115 => ?_) (fun hc115 => ?_)
            · refine lv_iconst (pc := 122) (v := 0) hx hb d_M_order_122 (by decide) ?_
              exact hQ _ _ _ _ _ _ hw (rfl) (⟨by rw [← ho, if_neg (by omega), if_neg (by omega)], rfl⟩) d_M_order_123
            · refine lv_iconst (pc := 118) (v := 1) hx hb d_M_order_118 (by decide) ?_
              refine lv_goto (pc := 119) (tgt := 123) hx hb d_M_order_119 (by decide) ?_
              exact hQ _ _ _ _ _ _ hw (rfl) (⟨by rw [← ho, if_neg (by omega), if_pos (by omega)], rfl⟩) d_M_order_123
          · refine lv_iconst (pc := 99) (v := (-1)) hx hb d_M_order_99 (by decide) ?_
            refine lv_goto (pc := 100) (tgt := 123) hx hb d_M_order_100 (by decide) ?_
            exact hQ _ _ _ _ _ _ hw (rfl) (⟨by rw [← ho, if_pos hc96], rfl⟩) d_M_order_123
        · have ei : min T.1 V.1 - i = (min T.1 V.1 - (i + 1)) + 1 := by omega
          rw [ei] at ho
          refine lv_aload_n (pc := 22) hx hb d_M_order_22 rfl (lv_at hl 0 rfl) ?_
          refine mg_tm (pc := 23) hC hw d_M_order_23 ?_
          refine lv_bipush (pc := 26) (v := nI 24) hx hb d_M_order_26 (by decide) ?_
          refine lv_iload_n (pc := 28) hx hb d_M_order_28 rfl (lv_at hl 1 rfl) ?_
          refine lv_imul (pc := 29) hx hb d_M_order_29 ?_
          refine g_top (y := nI (24 * a)) (pk_mul _ _) ?_
          refine lv_iload_n (pc := 30) hx hb d_M_order_30 rfl (lv_at hl 3 rfl) ?_
          refine lv_iadd (pc := 31) hx hb d_M_order_31 ?_
          refine g_top (y := nI ((24 * a) + i)) (nI_add _ _) ?_
          refine ml_tm (pc := 32) (i := (24 * a) + i) (by omega) hC hw d_M_order_32 ?_
          refine g_top (y := T.2 i) (t3 i (by omega)) ?_
          refine lv_aload_n (pc := 33) hx hb d_M_order_33 rfl (lv_at hl 0 rfl) ?_
          refine mg_tm (pc := 34) hC hw d_M_order_34 ?_
          refine lv_bipush (pc := 37) (v := nI 24) hx hb d_M_order_37 (by decide) ?_
          refine lv_iload_n (pc := 39) hx hb d_M_order_39 rfl (lv_at hl 2 rfl) ?_
          refine lv_imul (pc := 40) hx hb d_M_order_40 ?_
          refine g_top (y := nI (24 * b)) (pk_mul _ _) ?_
          refine lv_iload_n (pc := 41) hx hb d_M_order_41 rfl (lv_at hl 3 rfl) ?_
          refine lv_iadd (pc := 42) hx hb d_M_order_42 ?_
          refine g_top (y := nI ((24 * b) + i)) (nI_add _ _) ?_
          refine ml_tm (pc := 43) (i := (24 * b) + i) (by omega) hC hw d_M_order_43 ?_
          refine g_top (y := V.2 i) (v3 i (by omega)) ?_
          refine lv_icmp_eq (pc := 44) (tgt := 78) hx hb d_M_order_44 (by decide) (fun hc44 => ?_) (fun hc44 => ?_)
          · refine lv_iinc (pc := 78) (k := 3) (v := nI (i + 1)) hx hb d_M_order_78 hl rfl (nI_i1 i) (by decide) rfl (fun ls hl => ?_)
            have hl : lv_has ls 4 [(3, .int (nI (i + 1))), (0, .ref (g 0)), (1, .int (nI a)), (2, .int (nI b))] := hl
            refine lv_goto (pc := 81) (tgt := 2) hx hb d_M_order_81 (by decide) ?_
            refine ih (i + 1) _ _ _ (by omega) (lv_sub hl [1, 2, 3, 0] rfl) hw (by omega) ?_
            rw [← ho]
            show _ = if T.2 i = V.2 i then _ else _
            rw [if_pos hc44]
          · refine lv_aload_n (pc := 47) hx hb d_M_order_47 rfl (lv_at hl 0 rfl) ?_
            refine mg_tm (pc := 48) hC hw d_M_order_48 ?_
            refine lv_bipush (pc := 51) (v := nI 24) hx hb d_M_order_51 (by decide) ?_
            refine lv_iload_n (pc := 53) hx hb d_M_order_53 rfl (lv_at hl 1 rfl) ?_
            refine lv_imul (pc := 54) hx hb d_M_order_54 ?_
            refine g_top (y := nI (24 * a)) (pk_mul _ _) ?_
            refine lv_iload_n (pc := 55) hx hb d_M_order_55 rfl (lv_at hl 3 rfl) ?_
            refine lv_iadd (pc := 56) hx hb d_M_order_56 ?_
            refine g_top (y := nI ((24 * a) + i)) (nI_add _ _) ?_
            refine ml_tm (pc := 57) (i := (24 * a) + i) (by omega) hC hw d_M_order_57 ?_
            refine g_top (y := T.2 i) (t3 i (by omega)) ?_
            refine lv_aload_n (pc := 58) hx hb d_M_order_58 rfl (lv_at hl 0 rfl) ?_
            refine mg_tm (pc := 59) hC hw d_M_order_59 ?_
            refine lv_bipush (pc := 62) (v := nI 24) hx hb d_M_order_62 (by decide) ?_
            refine lv_iload_n (pc := 64) hx hb d_M_order_64 rfl (lv_at hl 2 rfl) ?_
            refine lv_imul (pc := 65) hx hb d_M_order_65 ?_
            refine g_top (y := nI (24 * b)) (pk_mul _ _) ?_
            refine lv_iload_n (pc := 66) hx hb d_M_order_66 rfl (lv_at hl 3 rfl) ?_
            refine lv_iadd (pc := 67) hx hb d_M_order_67 ?_
            refine g_top (y := nI ((24 * b) + i)) (nI_add _ _) ?_
            refine ml_tm (pc := 68) (i := (24 * b) + i) (by omega) hC hw d_M_order_68 ?_
            refine g_top (y := V.2 i) (v3 i (by omega)) ?_
            refine lv_icmp_ge (pc := 69) (tgt := 76) hx hb d_M_order_69 (by decide) (fun hc69 => ?_) (fun hc69 => ?_)
            · refine lv_iconst (pc := 76) (v := 1) hx hb d_M_order_76 (by decide) ?_
              exact hQ _ _ _ _ _ _ hw (rfl) (⟨by rw [← ho]; show _ = if T.2 i = V.2 i then _ else _; rw [if_neg hc44, if_neg (Int32.not_lt.mpr hc69)], rfl⟩) d_M_order_77
            · refine lv_iconst (pc := 72) (v := (-1)) hx hb d_M_order_72 (by decide) ?_
              refine lv_goto (pc := 73) (tgt := 77) hx hb d_M_order_73 (by decide) ?_
              exact hQ _ _ _ _ _ _ hw (rfl) (⟨by rw [← ho]; show _ = if T.2 i = V.2 i then _ else _; rw [if_neg hc44, if_pos (Int32.not_le.mp hc69)], rfl⟩) d_M_order_77
  exact lp (min T.1 V.1 + 1) 0 _ _ _ (by omega) (lv_sub hl [1, 2, 3, 0] rfl) hw (Nat.zero_le _) rfl
set_option maxHeartbeats 4000000 in
set_option maxRecDepth 100000 in
theorem c_M_first (l : Launch) (D : va_G) (g : Nat → Nat) (k : Nat → ClassId) (tp : Nat → Int32) (tl : Int32) (tm : Nat → Int32) (sz : Nat → Int32) (wd : Nat → Int32) (wl : Int32) (tb : Nat → Int32) (x : Int32) {ts : List Tm} (ht : tok ts tm sz) (hlen : ts.length ≤ 150) : gMi l y_M_first (gW y_M_first b_M_first 3 (some .int)) (gR 1) D (mT k) (mw g k) [.ref (g 0), .int x] (tp, tl, tm, sz, (nI ts.length), wd, wl, tb) (fun r u => r = afs ts x ∧ u = (tp, tl, tm, sz, (nI ts.length), wd, wl, tb)) := by
  rcases hasT_cases ts x hlen with ⟨hT, hk⟩ | ⟨a, T, ha, rfl, ha2, hT⟩
  · refine g_starti (by decide) (Nat.le_of_ble_eq_true rfl) ?_
    intro p ev s m args below meth cd A Q ls hC hQ hl hw
    have hx := hC.1.1
    have hb := hC.1.2.1
    have hl : lv_has ls 3 [(0, .ref (g 0)), (1, .int x)] := hl
    refine lv_aload_n (pc := 0) hx hb d_M_first_0 rfl (lv_at hl 0 rfl) ?_
    refine lv_iload_n (pc := 1) hx hb d_M_first_1 rfl (lv_at hl 1 rfl) ?_
    refine g_calli (pc := 2) (as := [.int x]) (rest := []) hC hw (c_M_is_n l D g k tp tl tm sz _ wd wl tb hk) lm_M_is f_M_is rfl rfl rfl rfl ⟨by decide, by decide⟩ hl.1 (Nat.le_of_ble_eq_true rfl) d_M_first_2 (fun r u1 H locs hp hw => ?_)
    obtain ⟨rfl, rfl⟩ := hp
    refine lv_if_ne (pc := 5) (tgt := 11) hx hb d_M_first_5 (by decide) (fun hc5 => ?_) (fun hc5 => ?_)
    · exact absurd rfl hc5
    · refine lv_bipush (pc := 8) (v := (-2)) hx hb d_M_first_8 (by decide) ?_
      exact hQ _ _ _ _ _ _ hw (rfl) (⟨afs_none hT, rfl⟩) d_M_first_10
  · refine g_starti (by decide) (Nat.le_of_ble_eq_true rfl) ?_
    intro p ev s m args below meth cd A Q ls hC hQ hl hw
    have hx := hC.1.1
    have hb := hC.1.2.1
    have hl : lv_has ls 3 [(0, .ref (g 0)), (1, .int (nI a))] := hl
    refine lv_aload_n (pc := 0) hx hb d_M_first_0 rfl (lv_at hl 0 rfl) ?_
    refine lv_iload_n (pc := 1) hx hb d_M_first_1 rfl (lv_at hl 1 rfl) ?_
    refine g_calli (pc := 2) (as := [.int (nI a)]) (rest := []) hC hw (c_M_is_y l D g k tp tl tm sz wd wl tb ha hlen) lm_M_is f_M_is rfl rfl rfl rfl ⟨by decide, by decide⟩ hl.1 (Nat.le_of_ble_eq_true rfl) d_M_first_2 (fun r u1 H locs hp hw => ?_)
    obtain ⟨rfl, rfl⟩ := hp
    refine lv_if_ne (pc := 5) (tgt := 11) hx hb d_M_first_5 (by decide) (fun hc5 => ?_) (fun hc5 => ?_)
    · refine lv_iconst (pc := 11) (v := nI 0) hx hb d_M_first_11 (by decide) ?_
      refine lv_istore_n (pc := 12) hx hb d_M_first_12 rfl hl (by decide) rfl (fun ls hl => ?_)
      have hl : lv_has ls 3 [(2, .int (nI 0)), (0, .ref (g 0)), (1, .int (nI a))] := hl
      have lp : ∀ (fu : Nat) (j : Nat) (ls : Array Slot) (H : Heap) (locs : List Loc), a - j < fu → lv_has ls 3 [(0, .ref (g 0)), (1, .int (nI a)), (2, .int (nI j))] → gH D (mw g k) A s.heap (tp, tl, tm, sz, (nI ts.length), wd, wl, tb) H locs → (j ≤ a) → (fsr ts T (a - j) j = fst ts T a) → W p l ev (gR 1) s m args below meth cd H locs 0 0 Q (F0 m 13 ls []) := by
        intro fu
        induction fu with
        | zero => intro j ls H locs hn hl hw hj ho; exact absurd hn (Nat.not_lt_zero _)
        | succ fu ih =>
          intro j ls H locs hn hl hw hj ho
          have hU : ts[j]? = some ts[j] := List.getElem?_eq_getElem (by omega)
          refine lv_aload_n (pc := 13) hx hb d_M_first_13 rfl (lv_at hl 0 rfl) ?_
          refine lv_iload_n (pc := 14) hx hb d_M_first_14 rfl (lv_at hl 2 rfl) ?_
          refine lv_iload_n (pc := 15) hx hb d_M_first_15 rfl (lv_at hl 1 rfl) ?_
          refine g_calli (pc := 16) (as := [.int (nI j), .int (nI a)]) (rest := []) hC hw (c_M_order l D g k tp tl tm sz _ wd wl tb (a := j) (b := a) (by omega) (by omega) (ht j _ hU) (ht a _ ha2)) lm_M_order f_M_order rfl rfl rfl rfl ⟨by decide, by decide⟩ hl.1 (Nat.le_of_ble_eq_true rfl) d_M_first_16 (fun r u1 H locs hp hw => ?_)
          obtain ⟨rfl, rfl⟩ := hp
          refine lv_if_eq (pc := 19) (tgt := 28) hx hb d_M_first_19 (by decide) (fun hc19 => ?_) (fun hc19 => ?_)
          · have hf : fst ts T a = j := by
              by_cases z : j = a
              · rw [← ho, z, Nat.sub_self]; rfl
              · rw [← ho, show a - j = (a - (j + 1)) + 1 by omega]; exact fsr_y hU hc19
            refine lv_iload_n (pc := 28) hx hb d_M_first_28 rfl (lv_at hl 2 rfl) ?_
            exact hQ _ _ _ _ _ _ hw (rfl) (⟨by rw [← afs_in hT (by omega), hf], rfl⟩) d_M_first_29
          · have hja : j < a := by
              by_cases z : j = a
              · subst z; rw [Option.some.inj (hU.symm.trans ha2)] at hc19; exact absurd (od_self T) hc19
              · omega
            rw [show a - j = (a - (j + 1)) + 1 by omega, fsr_n hU hc19] at ho
            refine lv_iinc (pc := 22) (k := 2) (v := nI (j + 1)) hx hb d_M_first_22 hl rfl (nI_i1 j) (by decide) rfl (fun ls hl => ?_)
            have hl : lv_has ls 3 [(2, .int (nI (j + 1))), (0, .ref (g 0)), (1, .int (nI a))] := hl
            refine lv_goto (pc := 25) (tgt := 13) hx hb d_M_first_25 (by decide) ?_
            exact ih (j + 1) _ _ _ (by omega) (lv_sub hl [1, 2, 0] rfl) hw (by omega) ho
      exact lp (a + 1) 0 _ _ _ (by omega) (lv_sub hl [1, 2, 0] rfl) hw (Nat.zero_le _) rfl
    · exact absurd hc5 (by decide)
set_option maxHeartbeats 4000000 in
set_option maxRecDepth 100000 in
theorem c_M_different (l : Launch) (D : va_G) (g : Nat → Nat) (k : Nat → ClassId) (tp : Nat → Int32) (tl : Int32) (tm : Nat → Int32) (sz : Nat → Int32) (wd : Nat → Int32) (wl : Int32) (tb : Nat → Int32) {ts : List Tm} (ht : tok ts tm sz) (hlen : ts.length ≤ 150) : gMi l y_M_different (gW y_M_different b_M_different 3 (some .int)) (gR 2) D (mT k) (mw g k) [.ref (g 0)] (tp, tl, tm, sz, (nI ts.length), wd, wl, tb) (fun r u => r = nI (dct ts ts.length) ∧ u = (tp, tl, tm, sz, (nI ts.length), wd, wl, tb)) := by
  refine g_starti (by decide) (Nat.le_of_ble_eq_true rfl) ?_
  intro p ev s m args below meth cd A Q ls hC hQ hl hw
  have hx := hC.1.1
  have hb := hC.1.2.1
  have hl : lv_has ls 3 [(0, .ref (g 0))] := hl
  refine lv_iconst (pc := 0) (v := nI 0) hx hb d_M_different_0 (by decide) ?_
  refine lv_istore_n (pc := 1) hx hb d_M_different_1 rfl hl (by decide) rfl (fun ls hl => ?_)
  have hl : lv_has ls 3 [(1, .int (nI 0)), (0, .ref (g 0))] := hl
  refine lv_iconst (pc := 2) (v := nI 0) hx hb d_M_different_2 (by decide) ?_
  refine lv_istore_n (pc := 3) hx hb d_M_different_3 rfl hl (by decide) rfl (fun ls hl => ?_)
  have hl : lv_has ls 3 [(2, .int (nI 0)), (1, .int (nI 0)), (0, .ref (g 0))] := hl
  have lp : ∀ (fu : Nat) (a : Nat) (ls : Array Slot) (H : Heap) (locs : List Loc), ts.length - a < fu → lv_has ls 3 [(0, .ref (g 0)), (1, .int (nI (dct ts a))), (2, .int (nI a))] → gH D (mw g k) A s.heap (tp, tl, tm, sz, (nI ts.length), wd, wl, tb) H locs → (a ≤ ts.length) → W p l ev (gR 2) s m args below meth cd H locs 0 0 Q (F0 m 4 ls []) := by
    intro fu
    induction fu with
    | zero => intro a ls H locs hn hl hw ha; exact absurd hn (Nat.not_lt_zero _)
    | succ fu ih =>
      intro a ls H locs hn hl hw ha
      refine lv_iload_n (pc := 4) hx hb d_M_different_4 rfl (lv_at hl 2 rfl) ?_
      refine lv_aload_n (pc := 5) hx hb d_M_different_5 rfl (lv_at hl 0 rfl) ?_
      refine mg_ct (pc := 6) hC hw d_M_different_6 ?_
      refine nc_ge (pc := 9) (tgt := 35) hx hb d_M_different_9 (by decide) (by omega) (by omega) (fun hc9 => ?_) (fun hc9 => ?_)
      · have ei : a = ts.length := by omega
        subst ei
        refine lv_iload_n (pc := 35) hx hb d_M_different_35 rfl (lv_at hl 1 rfl) ?_
        exact hQ _ _ _ _ _ _ hw (rfl) (⟨rfl, rfl⟩) d_M_different_36
      · have hT : ts[a]? = some ts[a] := List.getElem?_eq_getElem (by omega)
        have hd := dct_le ts a
        have hfs : fst ts ts[a] a ≤ 0 + a := fsr_le a 0 (by omega)
        have haf : afs ts (nI a) = nI (fst ts ts[a] a) := (afs_in ((hasT_in (by omega)).trans hT) (by omega)).symm
        refine lv_iload_n (pc := 12) hx hb d_M_different_12 rfl (lv_at hl 1 rfl) ?_
        refine lv_aload_n (pc := 13) hx hb d_M_different_13 rfl (lv_at hl 0 rfl) ?_
        refine lv_iload_n (pc := 14) hx hb d_M_different_14 rfl (lv_at hl 2 rfl) ?_
        refine g_calli (pc := 15) (as := [.int (nI a)]) (rest := [.int (nI (dct ts a))]) hC hw (c_M_first l D g k tp tl tm sz wd wl tb (nI a) ht hlen) lm_M_first f_M_first rfl rfl rfl rfl ⟨by decide, by decide⟩ hl.1 (Nat.le_of_ble_eq_true rfl) d_M_different_15 (fun r u1 H locs hp hw => ?_)
        obtain ⟨rfl, rfl⟩ := hp
        refine g_top (y := nI (fst ts ts[a] a)) haf ?_
        refine lv_iload_n (pc := 18) hx hb d_M_different_18 rfl (lv_at hl 2 rfl) ?_
        refine nc_ne (pc := 19) (tgt := 26) hx hb d_M_different_19 (by decide) (by omega) (by omega) (fun hc19 => ?_) (fun hc19 => ?_)
        · refine lv_iconst (pc := 26) (v := nI 0) hx hb d_M_different_26 (by decide) ?_
          refine lv_iadd (pc := 27) hx hb d_M_different_27 ?_
          refine g_top (y := nI ((dct ts a) + 0)) (nI_add _ _) ?_
          refine lv_istore_n (pc := 28) hx hb d_M_different_28 rfl hl (by decide) rfl (fun ls hl => ?_)
          have hl : lv_has ls 3 [(1, .int (nI ((dct ts a) + 0))), (0, .ref (g 0)), (2, .int (nI a))] := hl
          refine lv_iinc (pc := 29) (k := 2) (v := nI (a + 1)) hx hb d_M_different_29 hl rfl (nI_i1 a) (by decide) rfl (fun ls hl => ?_)
          have hl : lv_has ls 3 [(2, .int (nI (a + 1))), (1, .int (nI ((dct ts a) + 0))), (0, .ref (g 0))] := hl
          refine lv_goto (pc := 32) (tgt := 4) hx hb d_M_different_32 (by decide) ?_
          exact ih (a + 1) _ _ _ (by omega) (by rw [dct_n hT hc19]; exact (lv_sub hl [2, 1, 0] rfl)) hw (by omega)
        · refine lv_iconst (pc := 22) (v := nI 1) hx hb d_M_different_22 (by decide) ?_
          refine lv_goto (pc := 23) (tgt := 27) hx hb d_M_different_23 (by decide) ?_
          refine lv_iadd (pc := 27) hx hb d_M_different_27 ?_
          refine g_top (y := nI ((dct ts a) + 1)) (nI_add _ _) ?_
          refine lv_istore_n (pc := 28) hx hb d_M_different_28 rfl hl (by decide) rfl (fun ls hl => ?_)
          have hl : lv_has ls 3 [(1, .int (nI ((dct ts a) + 1))), (0, .ref (g 0)), (2, .int (nI a))] := hl
          refine lv_iinc (pc := 29) (k := 2) (v := nI (a + 1)) hx hb d_M_different_29 hl rfl (nI_i1 a) (by decide) rfl (fun ls hl => ?_)
          have hl : lv_has ls 3 [(2, .int (nI (a + 1))), (1, .int (nI ((dct ts a) + 1))), (0, .ref (g 0))] := hl
          refine lv_goto (pc := 32) (tgt := 4) hx hb d_M_different_32 (by decide) ?_
          exact ih (a + 1) _ _ _ (by omega) (by rw [dct_y hT hc19]; exact (lv_sub hl [2, 1, 0] rfl)) hw (by omega)
  exact lp (ts.length + 1) 0 _ _ _ (by omega) (lv_sub hl [2, 1, 0] rfl) hw (Nat.zero_le _)
set_option maxHeartbeats 4000000 in
set_option maxRecDepth 100000 in
theorem c_M_compare (l : Launch) (D : va_G) (g : Nat → Nat) (k : Nat → ClassId) (tp : Nat → Int32) (tl : Int32) (tm : Nat → Int32) (sz : Nat → Int32) (wd : Nat → Int32) (wl : Int32) (tb : Nat → Int32) (x y : Int32) {ts : List Tm} (ht : tok ts tm sz) (hlen : ts.length ≤ 150) : gMi l y_M_compare (gW y_M_compare b_M_compare 3 (some .int)) (gR 1) D (mT k) (mw g k) [.ref (g 0), .int x, .int y] (tp, tl, tm, sz, (nI ts.length), wd, wl, tb) (fun r u => r = acm ts x y ∧ u = (tp, tl, tm, sz, (nI ts.length), wd, wl, tb)) := by
  rcases hasT_cases ts x hlen with ⟨hT, hk⟩ | ⟨j, T, hj, rfl, hj2, hT⟩
  · refine g_starti (by decide) (Nat.le_of_ble_eq_true rfl) ?_
    intro p ev s m args below meth cd A Q ls hC hQ hl hw
    have hx := hC.1.1
    have hb := hC.1.2.1
    have hl : lv_has ls 3 [(0, .ref (g 0)), (1, .int x), (2, .int y)] := hl
    refine lv_aload_n (pc := 0) hx hb d_M_compare_0 rfl (lv_at hl 0 rfl) ?_
    refine lv_iload_n (pc := 1) hx hb d_M_compare_1 rfl (lv_at hl 1 rfl) ?_
    refine g_calli (pc := 2) (as := [.int x]) (rest := []) hC hw (c_M_is_n l D g k tp tl tm sz _ wd wl tb hk) lm_M_is f_M_is rfl rfl rfl rfl ⟨by decide, by decide⟩ hl.1 (Nat.le_of_ble_eq_true rfl) d_M_compare_2 (fun r u1 H locs hp hw => ?_)
    obtain ⟨rfl, rfl⟩ := hp
    refine lv_if_eq (pc := 5) (tgt := 25) hx hb d_M_compare_5 (by decide) (fun hc5 => ?_) (fun hc5 => ?_)
    · refine lv_bipush (pc := 25) (v := (-2)) hx hb d_M_compare_25 (by decide) ?_
      exact hQ _ _ _ _ _ _ hw (rfl) (⟨acm_n1 hT, rfl⟩) d_M_compare_27
    · exact absurd rfl hc5
  · rcases hasT_cases ts y hlen with ⟨hV, hk⟩ | ⟨z, V, hz, rfl, hz2, hV⟩
    · refine g_starti (by decide) (Nat.le_of_ble_eq_true rfl) ?_
      intro p ev s m args below meth cd A Q ls hC hQ hl hw
      have hx := hC.1.1
      have hb := hC.1.2.1
      have hl : lv_has ls 3 [(0, .ref (g 0)), (1, .int (nI j)), (2, .int y)] := hl
      refine lv_aload_n (pc := 0) hx hb d_M_compare_0 rfl (lv_at hl 0 rfl) ?_
      refine lv_iload_n (pc := 1) hx hb d_M_compare_1 rfl (lv_at hl 1 rfl) ?_
      refine g_calli (pc := 2) (as := [.int (nI j)]) (rest := []) hC hw (c_M_is_y l D g k tp tl tm sz wd wl tb hj hlen) lm_M_is f_M_is rfl rfl rfl rfl ⟨by decide, by decide⟩ hl.1 (Nat.le_of_ble_eq_true rfl) d_M_compare_2 (fun r u1 H locs hp hw => ?_)
      obtain ⟨rfl, rfl⟩ := hp
      refine lv_if_eq (pc := 5) (tgt := 25) hx hb d_M_compare_5 (by decide) (fun hc5 => ?_) (fun hc5 => ?_)
      · exact absurd hc5 (by decide)
      · refine lv_aload_n (pc := 8) hx hb d_M_compare_8 rfl (lv_at hl 0 rfl) ?_
        refine lv_iload_n (pc := 9) hx hb d_M_compare_9 rfl (lv_at hl 2 rfl) ?_
        refine g_calli (pc := 10) (as := [.int y]) (rest := []) hC hw (c_M_is_n l D g k tp tl tm sz _ wd wl tb hk) lm_M_is f_M_is rfl rfl rfl rfl ⟨by decide, by decide⟩ hl.1 (Nat.le_of_ble_eq_true rfl) d_M_compare_10 (fun r u1 H locs hp hw => ?_)
        obtain ⟨rfl, rfl⟩ := hp
        refine lv_if_eq (pc := 13) (tgt := 25) hx hb d_M_compare_13 (by decide) (fun hc13 => ?_) (fun hc13 => ?_)
        · refine lv_bipush (pc := 25) (v := (-2)) hx hb d_M_compare_25 (by decide) ?_
          exact hQ _ _ _ _ _ _ hw (rfl) (⟨acm_n2 hV, rfl⟩) d_M_compare_27
        · exact absurd rfl hc13
    · refine g_starti (by decide) (Nat.le_of_ble_eq_true rfl) ?_
      intro p ev s m args below meth cd A Q ls hC hQ hl hw
      have hx := hC.1.1
      have hb := hC.1.2.1
      have hl : lv_has ls 3 [(0, .ref (g 0)), (1, .int (nI j)), (2, .int (nI z))] := hl
      refine lv_aload_n (pc := 0) hx hb d_M_compare_0 rfl (lv_at hl 0 rfl) ?_
      refine lv_iload_n (pc := 1) hx hb d_M_compare_1 rfl (lv_at hl 1 rfl) ?_
      refine g_calli (pc := 2) (as := [.int (nI j)]) (rest := []) hC hw (c_M_is_y l D g k tp tl tm sz wd wl tb hj hlen) lm_M_is f_M_is rfl rfl rfl rfl ⟨by decide, by decide⟩ hl.1 (Nat.le_of_ble_eq_true rfl) d_M_compare_2 (fun r u1 H locs hp hw => ?_)
      obtain ⟨rfl, rfl⟩ := hp
      refine lv_if_eq (pc := 5) (tgt := 25) hx hb d_M_compare_5 (by decide) (fun hc5 => ?_) (fun hc5 => ?_)
      · exact absurd hc5 (by decide)
      · refine lv_aload_n (pc := 8) hx hb d_M_compare_8 rfl (lv_at hl 0 rfl) ?_
        refine lv_iload_n (pc := 9) hx hb d_M_compare_9 rfl (lv_at hl 2 rfl) ?_
        refine g_calli (pc := 10) (as := [.int (nI z)]) (rest := []) hC hw (c_M_is_y l D g k tp tl tm sz wd wl tb hz hlen) lm_M_is f_M_is rfl rfl rfl rfl ⟨by decide, by decide⟩ hl.1 (Nat.le_of_ble_eq_true rfl) d_M_compare_10 (fun r u1 H locs hp hw => ?_)
        obtain ⟨rfl, rfl⟩ := hp
        refine lv_if_eq (pc := 13) (tgt := 25) hx hb d_M_compare_13 (by decide) (fun hc13 => ?_) (fun hc13 => ?_)
        · exact absurd hc13 (by decide)
        · refine lv_aload_n (pc := 16) hx hb d_M_compare_16 rfl (lv_at hl 0 rfl) ?_
          refine lv_iload_n (pc := 17) hx hb d_M_compare_17 rfl (lv_at hl 1 rfl) ?_
          refine lv_iload_n (pc := 18) hx hb d_M_compare_18 rfl (lv_at hl 2 rfl) ?_
          refine g_calli (pc := 19) (as := [.int (nI j), .int (nI z)]) (rest := []) hC hw (c_M_order l D g k tp tl tm sz _ wd wl tb (a := j) (b := z) (by omega) (by omega) (ht j _ hj2) (ht z _ hz2)) lm_M_order f_M_order rfl rfl rfl rfl ⟨by decide, by decide⟩ hl.1 (Nat.le_of_ble_eq_true rfl) d_M_compare_19 (fun r u1 H locs hp hw => ?_)
          obtain ⟨rfl, rfl⟩ := hp
          refine lv_goto (pc := 22) (tgt := 27) hx hb d_M_compare_22 (by decide) ?_
          exact hQ _ _ _ _ _ _ hw (rfl) (⟨acm_in hT hV, rfl⟩) d_M_compare_27
