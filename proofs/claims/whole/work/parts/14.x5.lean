set_option maxHeartbeats 4000000 in
set_option maxRecDepth 100000 in
theorem c_X_distance (l : Launch) (D : va_G) (g : Nat → Nat) (k : Nat → ClassId) (tp : Nat → Int32) (tl : Int32) (sg ln : Nat → Int32) (tc : Int32) (ds : Nat → Int32) {a b : Nat} {T V : Tm} (ha : a < 151) (hb0 : b < 151) (hT : tat sg ln a T) (hV : tat sg ln b V) : gMi l y_X_distance (gW y_X_distance b_X_distance 8 (some .int)) (gR 1) D (xT k) (xw g k) [.ref (g 0), .int (nI a), .int (nI b)] (tp, tl, sg, ln, tc, ds) (fun r u => r = nI (lev T V) ∧ ∃ ds1, u = (tp, tl, sg, ln, tc, ds1)) := by
  refine g_starti (by decide) (Nat.le_of_ble_eq_true rfl) ?_
  intro p ev s m args below meth cd A Q ls hC hQ hl hw
  have hx := hC.1.1
  have hb := hC.1.2.1
  have hl : lv_has ls 8 [(0, .ref (g 0)), (1, .int (nI a)), (2, .int (nI b))] := hl
  obtain ⟨t1, t2, t3⟩ := hT
  obtain ⟨v1, v2, v3⟩ := hV
  have lp2 : ∀ (fu : Nat) (x : Nat) (ds1 : Nat → Int32) (ls : Array Slot) (H : Heap) (locs : List Loc), T.1 - x < fu → lv_has ls 8 [(0, .ref (g 0)), (1, .int (nI a)), (2, .int (nI b)), (3, .int (nI (x + 1)))] → gH D (xw g k) A s.heap (tp, tl, sg, ln, tc, ds1) H locs → (x ≤ T.1) → (∀ j, j ≤ V.1 → ds1 j = nI (lvr T.2 V.2 x j)) → W p l ev (gR 1) s m args below meth cd H locs 0 0 Q (F0 m 27 ls []) := by
    intro fu
    induction fu with
    | zero => intro x ds1 ls H locs hn hl hw hx1 hd; exact absurd hn (Nat.not_lt_zero _)
    | succ fu ih =>
      intro x ds1 ls H locs hn hl hw hx1 hd
      refine lv_iload_n (pc := 27) hx hb d_X_distance_27 rfl (lv_at hl 3 rfl) ?_
      refine lv_aload_n (pc := 28) hx hb d_X_distance_28 rfl (lv_at hl 0 rfl) ?_
      refine xg_ln (pc := 29) hC hw d_X_distance_29 ?_
      refine lv_iload_n (pc := 32) hx hb d_X_distance_32 rfl (lv_at hl 1 rfl) ?_
      refine xl_ln (pc := 33) (i := a) (by omega) hC hw d_X_distance_33 ?_
      refine g_top (y := nI T.1) (t2) ?_
      refine nc_gt (pc := 34) (tgt := 150) hx hb d_X_distance_34 (by decide) (by omega) (by omega) (fun hc34 => ?_) (fun hc34 => ?_)
      · have e : x = T.1 := by omega
        subst e
        refine lv_aload_n (pc := 150) hx hb d_X_distance_150 rfl (lv_at hl 0 rfl) ?_
        refine xg_ds (pc := 151) hC hw d_X_distance_151 ?_
        refine lv_aload_n (pc := 154) hx hb d_X_distance_154 rfl (lv_at hl 0 rfl) ?_
        refine xg_ln (pc := 155) hC hw d_X_distance_155 ?_
        refine lv_iload_n (pc := 158) hx hb d_X_distance_158 rfl (lv_at hl 2 rfl) ?_
        refine xl_ln (pc := 159) (i := b) (by omega) hC hw d_X_distance_159 ?_
        refine g_top (y := nI V.1) (v2) ?_
        refine xl_ds (pc := 160) (i := V.1) (by omega) hC hw d_X_distance_160 ?_
        refine g_top (y := nI (lev T V)) (hd V.1 (Nat.le_refl _)) ?_
        exact hQ _ _ _ _ _ _ hw (rfl) (⟨rfl, _, rfl⟩) d_X_distance_161
      · refine lv_aload_n (pc := 37) hx hb d_X_distance_37 rfl (lv_at hl 0 rfl) ?_
        refine xg_ds (pc := 38) hC hw d_X_distance_38 ?_
        refine lv_iconst (pc := 41) (v := nI 0) hx hb d_X_distance_41 (by decide) ?_
        refine xl_ds (pc := 42) (i := 0) (by omega) hC hw d_X_distance_42 ?_
        refine g_top (y := nI (lvr T.2 V.2 x 0)) (hd 0 (Nat.zero_le _)) ?_
        refine lv_istore (pc := 43) hx hb d_X_distance_43 hl (by decide) rfl (fun ls hl => ?_)
        have hl : lv_has ls 8 [(4, .int (nI (lvr T.2 V.2 x 0))), (0, .ref (g 0)), (1, .int (nI a)), (2, .int (nI b)), (3, .int (nI (x + 1)))] := hl
        refine lv_aload_n (pc := 45) hx hb d_X_distance_45 rfl (lv_at hl 1 rfl) ?_
        refine xg_ds (pc := 46) hC hw d_X_distance_46 ?_
        refine lv_iconst (pc := 49) (v := nI 0) hx hb d_X_distance_49 (by decide) ?_
        refine lv_iload_n (pc := 50) hx hb d_X_distance_50 rfl (lv_at hl 4 rfl) ?_
        refine xs_ds (pc := 51) (i := 0) (x := nI (x + 1)) (by omega) hC hw d_X_distance_51 (fun H locs hw => ?_)
        refine lv_iconst (pc := 52) (v := nI 1) hx hb d_X_distance_52 (by decide) ?_
        refine lv_istore (pc := 53) hx hb d_X_distance_53 hl (by decide) rfl (fun ls hl => ?_)
        have hl : lv_has ls 8 [(5, .int (nI 1)), (4, .int (nI (lvr T.2 V.2 x 0))), (0, .ref (g 0)), (1, .int (nI a)), (2, .int (nI b)), (3, .int (nI (x + 1)))] := hl
        have lp3 : ∀ (fu : Nat) (y : Nat) (ds2 : Nat → Int32) (ls : Array Slot) (H : Heap) (locs : List Loc), V.1 - y < fu → lv_has ls 8 [(0, .ref (g 0)), (1, .int (nI a)), (2, .int (nI b)), (3, .int (nI (x + 1))), (4, .int (nI (lvr T.2 V.2 x y))), (5, .int (nI (y + 1)))] → gH D (xw g k) A s.heap (tp, tl, sg, ln, tc, ds2) H locs → (y ≤ V.1) → (∀ j, j ≤ y → ds2 j = nI (lvr T.2 V.2 (x + 1) j)) → (∀ j, y < j → j ≤ V.1 → ds2 j = nI (lvr T.2 V.2 x j)) → W p l ev (gR 1) s m args below meth cd H locs 0 0 Q (F0 m 55 ls []) := by
          intro fu
          induction fu with
          | zero => intro y ds2 ls H locs hn3 hl hw hy1 he1 he2; exact absurd hn3 (Nat.not_lt_zero _)
          | succ fu ih3 =>
            intro y ds2 ls H locs hn3 hl hw hy1 he1 he2
            refine lv_iload (pc := 55) hx hb d_X_distance_55 (lv_at hl 5 rfl) ?_
            refine lv_aload_n (pc := 57) hx hb d_X_distance_57 rfl (lv_at hl 0 rfl) ?_
            refine xg_ln (pc := 58) hC hw d_X_distance_58 ?_
            refine lv_iload_n (pc := 61) hx hb d_X_distance_61 rfl (lv_at hl 2 rfl) ?_
            refine xl_ln (pc := 62) (i := b) (by omega) hC hw d_X_distance_62 ?_
            refine g_top (y := nI V.1) (v2) ?_
            refine nc_gt (pc := 63) (tgt := 144) hx hb d_X_distance_63 (by decide) (by omega) (by omega) (fun hc63 => ?_) (fun hc63 => ?_)
            · have e : y = V.1 := by omega
              refine lv_iinc (pc := 144) (k := 3) (v := nI ((x + 1) + 1)) hx hb d_X_distance_144 hl rfl (nI_i1 (x + 1)) (by decide) rfl (fun ls hl => ?_)
              have hl : lv_has ls 8 [(3, .int (nI ((x + 1) + 1))), (0, .ref (g 0)), (1, .int (nI a)), (2, .int (nI b)), (4, .int (nI (lvr T.2 V.2 x y))), (5, .int (nI (y + 1)))] := hl
              refine lv_goto (pc := 147) (tgt := 27) hx hb d_X_distance_147 (by decide) ?_
              exact ih (x + 1) ds2 _ _ _ (by omega) (lv_sub hl [1, 2, 3, 0] rfl) hw (by omega) (fun j hj => he1 j (by omega))
            · have b1 : lvr T.2 V.2 x y ≤ 24 := Nat.le_trans (lvr_le _ _ _ _) (by omega)
              have b2 : lvr T.2 V.2 x (y + 1) ≤ 24 := Nat.le_trans (lvr_le _ _ _ _) (by omega)
              have b3 : lvr T.2 V.2 (x + 1) y ≤ 24 := Nat.le_trans (lvr_le _ _ _ _) (by omega)
              refine lv_aload_n (pc := 66) hx hb d_X_distance_66 rfl (lv_at hl 0 rfl) ?_
              refine lv_iload_n (pc := 67) hx hb d_X_distance_67 rfl (lv_at hl 1 rfl) ?_
              refine lv_iload_n (pc := 68) hx hb d_X_distance_68 rfl (lv_at hl 3 rfl) ?_
              refine lv_iconst (pc := 69) (v := nI 1) hx hb d_X_distance_69 (by decide) ?_
              refine lv_isub (pc := 70) hx hb d_X_distance_70 ?_
              refine g_top (y := nI x) (nI_pred x) ?_
              refine g_calli (pc := 71) (as := [.int (nI a), .int (nI x)]) (rest := []) hC hw (c_X_signAt l D g k tp tl sg ln tc _ (a := a) (j := x) (by omega)) lm_X_signAt f_X_signAt rfl rfl rfl rfl ⟨by decide, by decide⟩ hl.1 (Nat.le_of_ble_eq_true rfl) d_X_distance_71 (fun r u1 H locs hp hw => ?_)
              obtain ⟨rfl, rfl⟩ := hp
              refine g_top (y := T.2 x) (t3 x (by omega)) ?_
              refine lv_aload_n (pc := 74) hx hb d_X_distance_74 rfl (lv_at hl 0 rfl) ?_
              refine lv_iload_n (pc := 75) hx hb d_X_distance_75 rfl (lv_at hl 2 rfl) ?_
              refine lv_iload (pc := 76) hx hb d_X_distance_76 (lv_at hl 5 rfl) ?_
              refine lv_iconst (pc := 78) (v := nI 1) hx hb d_X_distance_78 (by decide) ?_
              refine lv_isub (pc := 79) hx hb d_X_distance_79 ?_
              refine g_top (y := nI y) (nI_pred y) ?_
              refine g_calli (pc := 80) (as := [.int (nI b), .int (nI y)]) (rest := [.int (T.2 x)]) hC hw (c_X_signAt l D g k tp tl sg ln tc _ (a := b) (j := y) (by omega)) lm_X_signAt f_X_signAt rfl rfl rfl rfl ⟨by decide, by decide⟩ hl.1 (Nat.le_of_ble_eq_true rfl) d_X_distance_80 (fun r u1 H locs hp hw => ?_)
              obtain ⟨rfl, rfl⟩ := hp
              refine g_top (y := V.2 y) (v3 y (by omega)) ?_
              refine lv_icmp_ne (pc := 83) (tgt := 91) hx hb d_X_distance_83 (by decide) (fun hc83 => ?_) (fun hc83 => ?_)
              · refine lv_iload (pc := 91) hx hb d_X_distance_91 (lv_at hl 4 rfl) ?_
                refine lv_iconst (pc := 93) (v := nI 1) hx hb d_X_distance_93 (by decide) ?_
                refine lv_iadd (pc := 94) hx hb d_X_distance_94 ?_
                refine g_top (y := nI ((lvr T.2 V.2 x y) + 1)) (nI_add _ _) ?_
                refine lv_istore (pc := 95) hx hb d_X_distance_95 hl (by decide) rfl (fun ls hl => ?_)
                have hl : lv_has ls 8 [(6, .int (nI ((lvr T.2 V.2 x y) + 1))), (0, .ref (g 0)), (1, .int (nI a)), (2, .int (nI b)), (3, .int (nI (x + 1))), (4, .int (nI (lvr T.2 V.2 x y))), (5, .int (nI (y + 1)))] := hl
                refine lv_aload_n (pc := 97) hx hb d_X_distance_97 rfl (lv_at hl 1 rfl) ?_
                refine xg_ds (pc := 98) hC hw d_X_distance_98 ?_
                refine lv_iload (pc := 101) hx hb d_X_distance_101 (lv_at hl 6 rfl) ?_
                refine xl_ds (pc := 103) (i := y + 1) (by omega) hC hw d_X_distance_103 ?_
                refine g_top (y := nI (lvr T.2 V.2 x (y + 1))) (he2 (y + 1) (by omega) (by omega)) ?_
                refine lv_istore (pc := 104) hx hb d_X_distance_104 hl (by decide) rfl (fun ls hl => ?_)
                have hl : lv_has ls 8 [(4, .int (nI (lvr T.2 V.2 x (y + 1)))), (6, .int (nI ((lvr T.2 V.2 x y) + 1))), (0, .ref (g 0)), (1, .int (nI a)), (2, .int (nI b)), (3, .int (nI (x + 1))), (5, .int (nI (y + 1)))] := hl
                refine lv_iload (pc := 106) hx hb d_X_distance_106 (lv_at hl 0 rfl) ?_
                refine lv_aload_n (pc := 108) hx hb d_X_distance_108 rfl (lv_at hl 2 rfl) ?_
                refine xg_ds (pc := 109) hC hw d_X_distance_109 ?_
                refine lv_iload (pc := 112) hx hb d_X_distance_112 (lv_at hl 6 rfl) ?_
                refine lv_iconst (pc := 114) (v := nI 1) hx hb d_X_distance_114 (by decide) ?_
                refine lv_isub (pc := 115) hx hb d_X_distance_115 ?_
                refine g_top (y := nI y) (nI_pred y) ?_
                refine xl_ds (pc := 116) (i := y) (by omega) hC hw d_X_distance_116 ?_
                refine g_top (y := nI (lvr T.2 V.2 (x + 1) y)) (he1 y (Nat.le_refl _)) ?_
                refine va_mmin (pc := 117) hx hb (hC.1.2.2.1.trans hl.1.symm) hC.1.2.2.2.1 (hC.1.2.2.2.2 _ lm_X_Math_min) (hC.1.2.2.2.2 _ i_Math_min_static) (hC.1.2.2.2.2 _ i_Math_init) (hC.1.2.2.2.2 _ i_Math_min_code) (by decide) (Nat.le_of_ble_eq_true rfl) (Nat.zero_le _) (Nat.zero_le _) d_X_distance_117 ?_
                refine g_top (y := nI (min (lvr T.2 V.2 x (y + 1)) (lvr T.2 V.2 (x + 1) y))) (mn_eq (by omega) (by omega)) ?_
                refine lv_iconst (pc := 120) (v := nI 1) hx hb d_X_distance_120 (by decide) ?_
                refine lv_iadd (pc := 121) hx hb d_X_distance_121 ?_
                refine g_top (y := nI ((min (lvr T.2 V.2 x (y + 1)) (lvr T.2 V.2 (x + 1) y)) + 1)) (nI_add _ _) ?_
                refine lv_istore (pc := 122) hx hb d_X_distance_122 hl (by decide) rfl (fun ls hl => ?_)
                have hl : lv_has ls 8 [(7, .int (nI ((min (lvr T.2 V.2 x (y + 1)) (lvr T.2 V.2 (x + 1) y)) + 1))), (4, .int (nI (lvr T.2 V.2 x (y + 1)))), (6, .int (nI ((lvr T.2 V.2 x y) + 1))), (0, .ref (g 0)), (1, .int (nI a)), (2, .int (nI b)), (3, .int (nI (x + 1))), (5, .int (nI (y + 1)))] := hl
                refine lv_aload_n (pc := 124) hx hb d_X_distance_124 rfl (lv_at hl 3 rfl) ?_
                refine xg_ds (pc := 125) hC hw d_X_distance_125 ?_
                refine lv_iload (pc := 128) hx hb d_X_distance_128 (lv_at hl 7 rfl) ?_
                refine lv_iload (pc := 130) hx hb d_X_distance_130 (lv_at hl 2 rfl) ?_
                refine lv_iload (pc := 132) hx hb d_X_distance_132 (lv_at hl 0 rfl) ?_
                have hss := lvr_ss T.2 V.2 x y
                rw [if_neg hc83] at hss
                refine va_mmin (pc := 134) hx hb (hC.1.2.2.1.trans hl.1.symm) hC.1.2.2.2.1 (hC.1.2.2.2.2 _ lm_X_Math_min) (hC.1.2.2.2.2 _ i_Math_min_static) (hC.1.2.2.2.2 _ i_Math_init) (hC.1.2.2.2.2 _ i_Math_min_code) (by decide) (Nat.le_of_ble_eq_true rfl) (Nat.zero_le _) (Nat.zero_le _) d_X_distance_134 ?_
                refine g_top (y := nI (lvr T.2 V.2 (x + 1) (y + 1))) ((mn_eq (by omega) (by omega)).trans (congrArg nI hss.symm)) ?_
                refine xs_ds (pc := 137) (i := y + 1) (x := nI (lvr T.2 V.2 (x + 1) (y + 1))) (by omega) hC hw d_X_distance_137 (fun H locs hw => ?_)
                refine lv_iinc (pc := 138) (k := 7) (v := nI ((y + 1) + 1)) hx hb d_X_distance_138 hl rfl (nI_i1 (y + 1)) (by decide) rfl (fun ls hl => ?_)
                have hl : lv_has ls 8 [(5, .int (nI ((y + 1) + 1))), (7, .int (nI ((min (lvr T.2 V.2 x (y + 1)) (lvr T.2 V.2 (x + 1) y)) + 1))), (4, .int (nI (lvr T.2 V.2 x (y + 1)))), (6, .int (nI ((lvr T.2 V.2 x y) + 1))), (0, .ref (g 0)), (1, .int (nI a)), (2, .int (nI b)), (3, .int (nI (x + 1)))] := hl
                refine lv_goto (pc := 141) (tgt := 55) hx hb d_X_distance_141 (by decide) ?_
                refine ih3 (y + 1) _ _ _ _ (by omega) (lv_sub hl [4, 5, 6, 7, 2, 0] rfl) hw (by omega) (fun j hj => ?_) (fun j h1 h2 => ?_)
                · by_cases e : j = y + 1
                  · rw [e, pk_us]
                  · rw [pk_un e]; exact he1 j (by omega)
                · rw [pk_un (by omega)]; exact he2 j (by omega) h2
              · refine lv_iload (pc := 86) hx hb d_X_distance_86 (lv_at hl 4 rfl) ?_
                refine lv_goto (pc := 88) (tgt := 95) hx hb d_X_distance_88 (by decide) ?_
                refine lv_istore (pc := 95) hx hb d_X_distance_95 hl (by decide) rfl (fun ls hl => ?_)
                have hl : lv_has ls 8 [(6, .int (nI (lvr T.2 V.2 x y))), (0, .ref (g 0)), (1, .int (nI a)), (2, .int (nI b)), (3, .int (nI (x + 1))), (4, .int (nI (lvr T.2 V.2 x y))), (5, .int (nI (y + 1)))] := hl
                refine lv_aload_n (pc := 97) hx hb d_X_distance_97 rfl (lv_at hl 1 rfl) ?_
                refine xg_ds (pc := 98) hC hw d_X_distance_98 ?_
                refine lv_iload (pc := 101) hx hb d_X_distance_101 (lv_at hl 6 rfl) ?_
                refine xl_ds (pc := 103) (i := y + 1) (by omega) hC hw d_X_distance_103 ?_
                refine g_top (y := nI (lvr T.2 V.2 x (y + 1))) (he2 (y + 1) (by omega) (by omega)) ?_
                refine lv_istore (pc := 104) hx hb d_X_distance_104 hl (by decide) rfl (fun ls hl => ?_)
                have hl : lv_has ls 8 [(4, .int (nI (lvr T.2 V.2 x (y + 1)))), (6, .int (nI (lvr T.2 V.2 x y))), (0, .ref (g 0)), (1, .int (nI a)), (2, .int (nI b)), (3, .int (nI (x + 1))), (5, .int (nI (y + 1)))] := hl
                refine lv_iload (pc := 106) hx hb d_X_distance_106 (lv_at hl 0 rfl) ?_
                refine lv_aload_n (pc := 108) hx hb d_X_distance_108 rfl (lv_at hl 2 rfl) ?_
                refine xg_ds (pc := 109) hC hw d_X_distance_109 ?_
                refine lv_iload (pc := 112) hx hb d_X_distance_112 (lv_at hl 6 rfl) ?_
                refine lv_iconst (pc := 114) (v := nI 1) hx hb d_X_distance_114 (by decide) ?_
                refine lv_isub (pc := 115) hx hb d_X_distance_115 ?_
                refine g_top (y := nI y) (nI_pred y) ?_
                refine xl_ds (pc := 116) (i := y) (by omega) hC hw d_X_distance_116 ?_
                refine g_top (y := nI (lvr T.2 V.2 (x + 1) y)) (he1 y (Nat.le_refl _)) ?_
                refine va_mmin (pc := 117) hx hb (hC.1.2.2.1.trans hl.1.symm) hC.1.2.2.2.1 (hC.1.2.2.2.2 _ lm_X_Math_min) (hC.1.2.2.2.2 _ i_Math_min_static) (hC.1.2.2.2.2 _ i_Math_init) (hC.1.2.2.2.2 _ i_Math_min_code) (by decide) (Nat.le_of_ble_eq_true rfl) (Nat.zero_le _) (Nat.zero_le _) d_X_distance_117 ?_
                refine g_top (y := nI (min (lvr T.2 V.2 x (y + 1)) (lvr T.2 V.2 (x + 1) y))) (mn_eq (by omega) (by omega)) ?_
                refine lv_iconst (pc := 120) (v := nI 1) hx hb d_X_distance_120 (by decide) ?_
                refine lv_iadd (pc := 121) hx hb d_X_distance_121 ?_
                refine g_top (y := nI ((min (lvr T.2 V.2 x (y + 1)) (lvr T.2 V.2 (x + 1) y)) + 1)) (nI_add _ _) ?_
                refine lv_istore (pc := 122) hx hb d_X_distance_122 hl (by decide) rfl (fun ls hl => ?_)
                have hl : lv_has ls 8 [(7, .int (nI ((min (lvr T.2 V.2 x (y + 1)) (lvr T.2 V.2 (x + 1) y)) + 1))), (4, .int (nI (lvr T.2 V.2 x (y + 1)))), (6, .int (nI (lvr T.2 V.2 x y))), (0, .ref (g 0)), (1, .int (nI a)), (2, .int (nI b)), (3, .int (nI (x + 1))), (5, .int (nI (y + 1)))] := hl
                refine lv_aload_n (pc := 124) hx hb d_X_distance_124 rfl (lv_at hl 3 rfl) ?_
                refine xg_ds (pc := 125) hC hw d_X_distance_125 ?_
                refine lv_iload (pc := 128) hx hb d_X_distance_128 (lv_at hl 7 rfl) ?_
                refine lv_iload (pc := 130) hx hb d_X_distance_130 (lv_at hl 2 rfl) ?_
                refine lv_iload (pc := 132) hx hb d_X_distance_132 (lv_at hl 0 rfl) ?_
                have hss := lvr_ss T.2 V.2 x y
                rw [if_pos hc83] at hss
                refine va_mmin (pc := 134) hx hb (hC.1.2.2.1.trans hl.1.symm) hC.1.2.2.2.1 (hC.1.2.2.2.2 _ lm_X_Math_min) (hC.1.2.2.2.2 _ i_Math_min_static) (hC.1.2.2.2.2 _ i_Math_init) (hC.1.2.2.2.2 _ i_Math_min_code) (by decide) (Nat.le_of_ble_eq_true rfl) (Nat.zero_le _) (Nat.zero_le _) d_X_distance_134 ?_
                refine g_top (y := nI (lvr T.2 V.2 (x + 1) (y + 1))) ((mn_eq (by omega) (by omega)).trans (congrArg nI hss.symm)) ?_
                refine xs_ds (pc := 137) (i := y + 1) (x := nI (lvr T.2 V.2 (x + 1) (y + 1))) (by omega) hC hw d_X_distance_137 (fun H locs hw => ?_)
                refine lv_iinc (pc := 138) (k := 7) (v := nI ((y + 1) + 1)) hx hb d_X_distance_138 hl rfl (nI_i1 (y + 1)) (by decide) rfl (fun ls hl => ?_)
                have hl : lv_has ls 8 [(5, .int (nI ((y + 1) + 1))), (7, .int (nI ((min (lvr T.2 V.2 x (y + 1)) (lvr T.2 V.2 (x + 1) y)) + 1))), (4, .int (nI (lvr T.2 V.2 x (y + 1)))), (6, .int (nI (lvr T.2 V.2 x y))), (0, .ref (g 0)), (1, .int (nI a)), (2, .int (nI b)), (3, .int (nI (x + 1)))] := hl
                refine lv_goto (pc := 141) (tgt := 55) hx hb d_X_distance_141 (by decide) ?_
                refine ih3 (y + 1) _ _ _ _ (by omega) (lv_sub hl [4, 5, 6, 7, 2, 0] rfl) hw (by omega) (fun j hj => ?_) (fun j h1 h2 => ?_)
                · by_cases e : j = y + 1
                  · rw [e, pk_us]
                  · rw [pk_un e]; exact he1 j (by omega)
                · rw [pk_un (by omega)]; exact he2 j (by omega) h2
        exact lp3 (V.1 + 1) 0 _ _ _ _ (by omega) (lv_sub hl [2, 3, 4, 5, 1, 0] rfl) hw (Nat.zero_le _) (fun j hj => by rw [show j = 0 by omega, pk_us]; rfl) (fun j h1 h2 => by rw [pk_un (by omega)]; exact hd j h2)
  refine lv_iconst (pc := 0) (v := nI 0) hx hb d_X_distance_0 (by decide) ?_
  refine lv_istore_n (pc := 1) hx hb d_X_distance_1 rfl hl (by decide) rfl (fun ls hl => ?_)
  have hl : lv_has ls 8 [(3, .int (nI 0)), (0, .ref (g 0)), (1, .int (nI a)), (2, .int (nI b))] := hl
  have lp : ∀ (fu : Nat) (y : Nat) (ds1 : Nat → Int32) (ls : Array Slot) (H : Heap) (locs : List Loc), V.1 + 1 - y < fu → lv_has ls 8 [(0, .ref (g 0)), (1, .int (nI a)), (2, .int (nI b)), (3, .int (nI y))] → gH D (xw g k) A s.heap (tp, tl, sg, ln, tc, ds1) H locs → (y ≤ V.1 + 1) → (∀ j, j < y → ds1 j = nI j) → W p l ev (gR 1) s m args below meth cd H locs 0 0 Q (F0 m 2 ls []) := by
    intro fu
    induction fu with
    | zero => intro y ds1 ls H locs hn hl hw hy1 hd; exact absurd hn (Nat.not_lt_zero _)
    | succ fu ih =>
      intro y ds1 ls H locs hn hl hw hy1 hd
      refine lv_iload_n (pc := 2) hx hb d_X_distance_2 rfl (lv_at hl 3 rfl) ?_
      refine lv_aload_n (pc := 3) hx hb d_X_distance_3 rfl (lv_at hl 0 rfl) ?_
      refine xg_ln (pc := 4) hC hw d_X_distance_4 ?_
      refine lv_iload_n (pc := 7) hx hb d_X_distance_7 rfl (lv_at hl 2 rfl) ?_
      refine xl_ln (pc := 8) (i := b) (by omega) hC hw d_X_distance_8 ?_
      refine g_top (y := nI V.1) (v2) ?_
      refine nc_gt (pc := 9) (tgt := 25) hx hb d_X_distance_9 (by decide) (by omega) (by omega) (fun hc9 => ?_) (fun hc9 => ?_)
      · refine lv_iconst (pc := 25) (v := nI 1) hx hb d_X_distance_25 (by decide) ?_
        refine lv_istore_n (pc := 26) hx hb d_X_distance_26 rfl hl (by decide) rfl (fun ls hl => ?_)
        have hl : lv_has ls 8 [(3, .int (nI 1)), (0, .ref (g 0)), (1, .int (nI a)), (2, .int (nI b))] := hl
        exact lp2 (T.1 + 1) 0 ds1 _ _ _ (by omega) (lv_sub hl [1, 2, 3, 0] rfl) hw (Nat.zero_le _) (fun j hj => hd j (by omega))
      · refine lv_aload_n (pc := 12) hx hb d_X_distance_12 rfl (lv_at hl 0 rfl) ?_
        refine xg_ds (pc := 13) hC hw d_X_distance_13 ?_
        refine lv_iload_n (pc := 16) hx hb d_X_distance_16 rfl (lv_at hl 3 rfl) ?_
        refine lv_iload_n (pc := 17) hx hb d_X_distance_17 rfl (lv_at hl 3 rfl) ?_
        refine xs_ds (pc := 18) (i := y) (x := nI y) (by omega) hC hw d_X_distance_18 (fun H locs hw => ?_)
        refine lv_iinc (pc := 19) (k := 3) (v := nI (y + 1)) hx hb d_X_distance_19 hl rfl (nI_i1 y) (by decide) rfl (fun ls hl => ?_)
        have hl : lv_has ls 8 [(3, .int (nI (y + 1))), (0, .ref (g 0)), (1, .int (nI a)), (2, .int (nI b))] := hl
        refine lv_goto (pc := 22) (tgt := 2) hx hb d_X_distance_22 (by decide) ?_
        exact ih (y + 1) _ _ _ _ (by omega) (lv_sub hl [1, 2, 3, 0] rfl) hw (by omega) (fun j hj => by
            by_cases e : j = y
            · rw [e, pk_us]
            · rw [pk_un e]; exact hd j (by omega))
  exact lp (V.1 + 2) 0 ds _ _ _ (by omega) (lv_sub hl [1, 2, 3, 0] rfl) hw (Nat.zero_le _) (fun j hj => absurd hj (Nat.not_lt_zero _))
set_option maxHeartbeats 4000000 in
set_option maxRecDepth 100000 in
theorem c_X_different (l : Launch) (D : va_G) (g : Nat → Nat) (k : Nat → ClassId) (tp : Nat → Int32) (tl : Int32) {sg ln : Nat → Int32} (ds : Nat → Int32) {ts : List Tm} (ht : tok ts sg ln) (hlen : ts.length ≤ 150) : gMi l y_X_different (gW y_X_different b_X_different 3 (some .int)) (gR 3) D (xT k) (xw g k) [.ref (g 0)] (tp, tl, sg, ln, (nI ts.length), ds) (fun r u => r = nI (dct ts ts.length) ∧ u = (tp, tl, sg, ln, (nI ts.length), ds)) := by
  refine g_starti (by decide) (Nat.le_of_ble_eq_true rfl) ?_
  intro p ev s m args below meth cd A Q ls hC hQ hl hw
  have hx := hC.1.1
  have hb := hC.1.2.1
  have hl : lv_has ls 3 [(0, .ref (g 0))] := hl
  refine lv_iconst (pc := 0) (v := nI 0) hx hb d_X_different_0 (by decide) ?_
  refine lv_istore_n (pc := 1) hx hb d_X_different_1 rfl hl (by decide) rfl (fun ls hl => ?_)
  have hl : lv_has ls 3 [(1, .int (nI 0)), (0, .ref (g 0))] := hl
  refine lv_iconst (pc := 2) (v := nI 0) hx hb d_X_different_2 (by decide) ?_
  refine lv_istore_n (pc := 3) hx hb d_X_different_3 rfl hl (by decide) rfl (fun ls hl => ?_)
  have hl : lv_has ls 3 [(2, .int (nI 0)), (1, .int (nI 0)), (0, .ref (g 0))] := hl
  have lp : ∀ (fu : Nat) (a : Nat) (ls : Array Slot) (H : Heap) (locs : List Loc), ts.length - a < fu → lv_has ls 3 [(0, .ref (g 0)), (1, .int (nI (dct ts a))), (2, .int (nI a))] → gH D (xw g k) A s.heap (tp, tl, sg, ln, (nI ts.length), ds) H locs → (a ≤ ts.length) → W p l ev (gR 3) s m args below meth cd H locs 0 0 Q (F0 m 4 ls []) := by
    intro fu
    induction fu with
    | zero => intro a ls H locs hn hl hw ha; exact absurd hn (Nat.not_lt_zero _)
    | succ fu ih =>
      intro a ls H locs hn hl hw ha
      refine lv_iload_n (pc := 4) hx hb d_X_different_4 rfl (lv_at hl 2 rfl) ?_
      refine lv_aload_n (pc := 5) hx hb d_X_different_5 rfl (lv_at hl 0 rfl) ?_
      refine xg_tc (pc := 6) hC hw d_X_different_6 ?_
      refine nc_ge (pc := 9) (tgt := 30) hx hb d_X_different_9 (by decide) (by omega) (by omega) (fun hc9 => ?_) (fun hc9 => ?_)
      · have e : a = ts.length := by omega
        subst e
        refine lv_iload_n (pc := 30) hx hb d_X_different_30 rfl (lv_at hl 1 rfl) ?_
        exact hQ _ _ _ _ _ _ hw (rfl) (⟨rfl, rfl⟩) d_X_different_31
      · have hT : ts[a]? = some ts[a] := List.getElem?_eq_getElem (by omega)
        have hd := dct_le ts a
        have hfs : fst ts ts[a] a ≤ 0 + a := fsr_le a 0 (by omega)
        refine lv_aload_n (pc := 12) hx hb d_X_different_12 rfl (lv_at hl 0 rfl) ?_
        refine lv_iload_n (pc := 13) hx hb d_X_different_13 rfl (lv_at hl 2 rfl) ?_
        refine g_calli (pc := 14) (as := [.int (nI a)]) (rest := []) hC hw (c_X_firstSame l D g k tp tl _ ds (a := a) ht hlen hT) lm_X_firstSame f_X_firstSame rfl rfl rfl rfl ⟨by decide, by decide⟩ hl.1 (Nat.le_of_ble_eq_true rfl) d_X_different_14 (fun r u1 H locs hp hw => ?_)
        obtain ⟨rfl, rfl⟩ := hp
        refine lv_iload_n (pc := 17) hx hb d_X_different_17 rfl (lv_at hl 2 rfl) ?_
        refine nc_ne (pc := 18) (tgt := 24) hx hb d_X_different_18 (by decide) (by omega) (by omega) (fun hc18 => ?_) (fun hc18 => ?_)
        · refine lv_iinc (pc := 24) (k := 2) (v := nI (a + 1)) hx hb d_X_different_24 hl rfl (nI_i1 a) (by decide) rfl (fun ls hl => ?_)
          have hl : lv_has ls 3 [(2, .int (nI (a + 1))), (0, .ref (g 0)), (1, .int (nI (dct ts a)))] := hl
          refine lv_goto (pc := 27) (tgt := 4) hx hb d_X_different_27 (by decide) ?_
          exact ih (a + 1) _ _ _ (by omega) (by rw [dct_n hT hc18]; exact (lv_sub hl [1, 2, 0] rfl)) hw (by omega)
        · refine lv_iinc (pc := 21) (k := 1) (v := nI ((dct ts a) + 1)) hx hb d_X_different_21 hl rfl (nI_i1 (dct ts a)) (by decide) rfl (fun ls hl => ?_)
          have hl : lv_has ls 3 [(1, .int (nI ((dct ts a) + 1))), (0, .ref (g 0)), (2, .int (nI a))] := hl
          refine lv_iinc (pc := 24) (k := 2) (v := nI (a + 1)) hx hb d_X_different_24 hl rfl (nI_i1 a) (by decide) rfl (fun ls hl => ?_)
          have hl : lv_has ls 3 [(2, .int (nI (a + 1))), (1, .int (nI ((dct ts a) + 1))), (0, .ref (g 0))] := hl
          refine lv_goto (pc := 27) (tgt := 4) hx hb d_X_different_27 (by decide) ?_
          exact ih (a + 1) _ _ _ (by omega) (by rw [dct_y hT hc18]; exact (lv_sub hl [2, 1, 0] rfl)) hw (by omega)
  exact lp (ts.length + 1) 0 _ _ _ (by omega) (lv_sub hl [2, 1, 0] rfl) hw (Nat.zero_le _)
/-- what first answers -/
def afs (ts : List Tm) (x : Int32) : Int32 := match hasT ts x with
  | none => -2
  | some T => nI (fst ts T x.toNatClampNeg)
theorem afs_none {ts : List Tm} {x : Int32} (h : hasT ts x = none) : -2 = afs ts x := by
  unfold afs
  rw [h]
theorem afs_in {ts : List Tm} {j : Nat} {T : Tm} (h : hasT ts (nI j) = some T) (hj : j < 2 ^ 31) : nI (fst ts T j) = afs ts (nI j) := by
  unfold afs
  rw [h]
  show _ = nI (fst ts T (nI j).toNatClampNeg)
  rw [nI_clamp hj]
/-- what compare answers -/
def acm (ts : List Tm) (x y : Int32) : Int32 := match hasT ts x, hasT ts y with
  | some T, some V => od T V
  | _, _ => -2
theorem acm_n1 {ts : List Tm} {x y : Int32} (h : hasT ts x = none) : -2 = acm ts x y := by
  unfold acm
  rw [h]
theorem acm_n2 {ts : List Tm} {x y : Int32} (h : hasT ts y = none) : -2 = acm ts x y := by
  unfold acm
  rw [h]
  cases hasT ts x <;> rfl
theorem acm_in {ts : List Tm} {x y : Int32} {T V : Tm} (h : hasT ts x = some T) (h2 : hasT ts y = some V) : od T V = acm ts x y := by
  unfold acm
  rw [h, h2]
set_option maxHeartbeats 4000000 in
set_option maxRecDepth 100000 in
theorem c_X_first (l : Launch) (D : va_G) (g : Nat → Nat) (k : Nat → ClassId) (tp : Nat → Int32) (tl : Int32) {sg ln : Nat → Int32} (ds : Nat → Int32) {ts : List Tm} (x : Int32) (ht : tok ts sg ln) (hlen : ts.length ≤ 150) : gMi l y_X_first (gW y_X_first b_X_first 2 (some .int)) (gR 3) D (xT k) (xw g k) [.ref (g 0), .int x] (tp, tl, sg, ln, (nI ts.length), ds) (fun r u => r = afs ts x ∧ u = (tp, tl, sg, ln, (nI ts.length), ds)) := by
  rcases hasT_cases ts x hlen with ⟨hT, hk⟩ | ⟨j, T, hj, rfl, hj2, hT⟩
  · refine g_starti (by decide) (Nat.le_of_ble_eq_true rfl) ?_
    intro p ev s m args below meth cd A Q ls hC hQ hl hw
    have hx := hC.1.1
    have hb := hC.1.2.1
    have hl : lv_has ls 2 [(0, .ref (g 0)), (1, .int x)] := hl
    refine lv_aload_n (pc := 0) hx hb d_X_first_0 rfl (lv_at hl 0 rfl) ?_
    refine lv_iload_n (pc := 1) hx hb d_X_first_1 rfl (lv_at hl 1 rfl) ?_
    refine g_calli (pc := 2) (as := [.int x]) (rest := []) hC hw (c_X_hasTerm_n l D g k tp tl sg ln _ ds hk) lm_X_hasTerm f_X_hasTerm rfl rfl rfl rfl ⟨by decide, by decide⟩ hl.1 (Nat.le_of_ble_eq_true rfl) d_X_first_2 (fun r u1 H locs hp hw => ?_)
    obtain ⟨rfl, rfl⟩ := hp
    refine lv_if_eq (pc := 5) (tgt := 16) hx hb d_X_first_5 (by decide) (fun hc5 => ?_) (fun hc5 => ?_)
    · refine lv_bipush (pc := 16) (v := (-2)) hx hb d_X_first_16 (by decide) ?_
      exact hQ _ _ _ _ _ _ hw (rfl) (⟨afs_none hT, rfl⟩) d_X_first_18
    · exact absurd rfl hc5
  · refine g_starti (by decide) (Nat.le_of_ble_eq_true rfl) ?_
    intro p ev s m args below meth cd A Q ls hC hQ hl hw
    have hx := hC.1.1
    have hb := hC.1.2.1
    have hl : lv_has ls 2 [(0, .ref (g 0)), (1, .int (nI j))] := hl
    refine lv_aload_n (pc := 0) hx hb d_X_first_0 rfl (lv_at hl 0 rfl) ?_
    refine lv_iload_n (pc := 1) hx hb d_X_first_1 rfl (lv_at hl 1 rfl) ?_
    refine g_calli (pc := 2) (as := [.int (nI j)]) (rest := []) hC hw (c_X_hasTerm_y l D g k tp tl sg ln ds hj hlen) lm_X_hasTerm f_X_hasTerm rfl rfl rfl rfl ⟨by decide, by decide⟩ hl.1 (Nat.le_of_ble_eq_true rfl) d_X_first_2 (fun r u1 H locs hp hw => ?_)
    obtain ⟨rfl, rfl⟩ := hp
    refine lv_if_eq (pc := 5) (tgt := 16) hx hb d_X_first_5 (by decide) (fun hc5 => ?_) (fun hc5 => ?_)
    · exact absurd hc5 (by decide)
    · refine lv_aload_n (pc := 8) hx hb d_X_first_8 rfl (lv_at hl 0 rfl) ?_
      refine lv_iload_n (pc := 9) hx hb d_X_first_9 rfl (lv_at hl 1 rfl) ?_
      refine g_calli (pc := 10) (as := [.int (nI j)]) (rest := []) hC hw (c_X_firstSame l D g k tp tl _ ds (a := j) ht hlen hj2) lm_X_firstSame f_X_firstSame rfl rfl rfl rfl ⟨by decide, by decide⟩ hl.1 (Nat.le_of_ble_eq_true rfl) d_X_first_10 (fun r u1 H locs hp hw => ?_)
      obtain ⟨rfl, rfl⟩ := hp
      refine lv_goto (pc := 13) (tgt := 18) hx hb d_X_first_13 (by decide) ?_
      exact hQ _ _ _ _ _ _ hw (rfl) (⟨afs_in hT (by omega), rfl⟩) d_X_first_18
set_option maxHeartbeats 4000000 in
set_option maxRecDepth 100000 in
theorem c_X_compare (l : Launch) (D : va_G) (g : Nat → Nat) (k : Nat → ClassId) (tp : Nat → Int32) (tl : Int32) {sg ln : Nat → Int32} (ds : Nat → Int32) {ts : List Tm} (x y : Int32) (ht : tok ts sg ln) (hlen : ts.length ≤ 150) : gMi l y_X_compare (gW y_X_compare b_X_compare 3 (some .int)) (gR 2) D (xT k) (xw g k) [.ref (g 0), .int x, .int y] (tp, tl, sg, ln, (nI ts.length), ds) (fun r u => r = acm ts x y ∧ u = (tp, tl, sg, ln, (nI ts.length), ds)) := by
  rcases hasT_cases ts x hlen with ⟨hT, hk⟩ | ⟨j, T, hj, rfl, hj2, hT⟩
  · refine g_starti (by decide) (Nat.le_of_ble_eq_true rfl) ?_
    intro p ev s m args below meth cd A Q ls hC hQ hl hw
    have hx := hC.1.1
    have hb := hC.1.2.1
    have hl : lv_has ls 3 [(0, .ref (g 0)), (1, .int x), (2, .int y)] := hl
    refine lv_aload_n (pc := 0) hx hb d_X_compare_0 rfl (lv_at hl 0 rfl) ?_
    refine lv_iload_n (pc := 1) hx hb d_X_compare_1 rfl (lv_at hl 1 rfl) ?_
    refine g_calli (pc := 2) (as := [.int x]) (rest := []) hC hw (c_X_hasTerm_n l D g k tp tl sg ln _ ds hk) lm_X_hasTerm f_X_hasTerm rfl rfl rfl rfl ⟨by decide, by decide⟩ hl.1 (Nat.le_of_ble_eq_true rfl) d_X_compare_2 (fun r u1 H locs hp hw => ?_)
    obtain ⟨rfl, rfl⟩ := hp
    refine lv_if_eq (pc := 5) (tgt := 25) hx hb d_X_compare_5 (by decide) (fun hc5 => ?_) (fun hc5 => ?_)
    · refine lv_bipush (pc := 25) (v := (-2)) hx hb d_X_compare_25 (by decide) ?_
      exact hQ _ _ _ _ _ _ hw (rfl) (⟨acm_n1 hT, rfl⟩) d_X_compare_27
    · exact absurd rfl hc5
  · rcases hasT_cases ts y hlen with ⟨hV, hk⟩ | ⟨z, V, hz, rfl, hz2, hV⟩
    · refine g_starti (by decide) (Nat.le_of_ble_eq_true rfl) ?_
      intro p ev s m args below meth cd A Q ls hC hQ hl hw
      have hx := hC.1.1
      have hb := hC.1.2.1
      have hl : lv_has ls 3 [(0, .ref (g 0)), (1, .int (nI j)), (2, .int y)] := hl
      refine lv_aload_n (pc := 0) hx hb d_X_compare_0 rfl (lv_at hl 0 rfl) ?_
      refine lv_iload_n (pc := 1) hx hb d_X_compare_1 rfl (lv_at hl 1 rfl) ?_
      refine g_calli (pc := 2) (as := [.int (nI j)]) (rest := []) hC hw (c_X_hasTerm_y l D g k tp tl sg ln ds hj hlen) lm_X_hasTerm f_X_hasTerm rfl rfl rfl rfl ⟨by decide, by decide⟩ hl.1 (Nat.le_of_ble_eq_true rfl) d_X_compare_2 (fun r u1 H locs hp hw => ?_)
      obtain ⟨rfl, rfl⟩ := hp
      refine lv_if_eq (pc := 5) (tgt := 25) hx hb d_X_compare_5 (by decide) (fun hc5 => ?_) (fun hc5 => ?_)
      · exact absurd hc5 (by decide)
      · refine lv_aload_n (pc := 8) hx hb d_X_compare_8 rfl (lv_at hl 0 rfl) ?_
        refine lv_iload_n (pc := 9) hx hb d_X_compare_9 rfl (lv_at hl 2 rfl) ?_
        refine g_calli (pc := 10) (as := [.int y]) (rest := []) hC hw (c_X_hasTerm_n l D g k tp tl sg ln _ ds hk) lm_X_hasTerm f_X_hasTerm rfl rfl rfl rfl ⟨by decide, by decide⟩ hl.1 (Nat.le_of_ble_eq_true rfl) d_X_compare_10 (fun r u1 H locs hp hw => ?_)
        obtain ⟨rfl, rfl⟩ := hp
        refine lv_if_eq (pc := 13) (tgt := 25) hx hb d_X_compare_13 (by decide) (fun hc13 => ?_) (fun hc13 => ?_)
        · refine lv_bipush (pc := 25) (v := (-2)) hx hb d_X_compare_25 (by decide) ?_
          exact hQ _ _ _ _ _ _ hw (rfl) (⟨acm_n2 hV, rfl⟩) d_X_compare_27
        · exact absurd rfl hc13
    · refine g_starti (by decide) (Nat.le_of_ble_eq_true rfl) ?_
      intro p ev s m args below meth cd A Q ls hC hQ hl hw
      have hx := hC.1.1
      have hb := hC.1.2.1
      have hl : lv_has ls 3 [(0, .ref (g 0)), (1, .int (nI j)), (2, .int (nI z))] := hl
      refine lv_aload_n (pc := 0) hx hb d_X_compare_0 rfl (lv_at hl 0 rfl) ?_
      refine lv_iload_n (pc := 1) hx hb d_X_compare_1 rfl (lv_at hl 1 rfl) ?_
      refine g_calli (pc := 2) (as := [.int (nI j)]) (rest := []) hC hw (c_X_hasTerm_y l D g k tp tl sg ln ds hj hlen) lm_X_hasTerm f_X_hasTerm rfl rfl rfl rfl ⟨by decide, by decide⟩ hl.1 (Nat.le_of_ble_eq_true rfl) d_X_compare_2 (fun r u1 H locs hp hw => ?_)
      obtain ⟨rfl, rfl⟩ := hp
      refine lv_if_eq (pc := 5) (tgt := 25) hx hb d_X_compare_5 (by decide) (fun hc5 => ?_) (fun hc5 => ?_)
      · exact absurd hc5 (by decide)
      · refine lv_aload_n (pc := 8) hx hb d_X_compare_8 rfl (lv_at hl 0 rfl) ?_
        refine lv_iload_n (pc := 9) hx hb d_X_compare_9 rfl (lv_at hl 2 rfl) ?_
        refine g_calli (pc := 10) (as := [.int (nI z)]) (rest := []) hC hw (c_X_hasTerm_y l D g k tp tl sg ln ds hz hlen) lm_X_hasTerm f_X_hasTerm rfl rfl rfl rfl ⟨by decide, by decide⟩ hl.1 (Nat.le_of_ble_eq_true rfl) d_X_compare_10 (fun r u1 H locs hp hw => ?_)
        obtain ⟨rfl, rfl⟩ := hp
        refine lv_if_eq (pc := 13) (tgt := 25) hx hb d_X_compare_13 (by decide) (fun hc13 => ?_) (fun hc13 => ?_)
        · exact absurd hc13 (by decide)
        · refine lv_aload_n (pc := 16) hx hb d_X_compare_16 rfl (lv_at hl 0 rfl) ?_
          refine lv_iload_n (pc := 17) hx hb d_X_compare_17 rfl (lv_at hl 1 rfl) ?_
          refine lv_iload_n (pc := 18) hx hb d_X_compare_18 rfl (lv_at hl 2 rfl) ?_
          refine g_calli (pc := 19) (as := [.int (nI j), .int (nI z)]) (rest := []) hC hw (c_X_order l D g k tp tl sg ln _ ds (a := j) (b := z) (by omega) (by omega) (ht j _ hj2) (ht z _ hz2)) lm_X_order f_X_order rfl rfl rfl rfl ⟨by decide, by decide⟩ hl.1 (Nat.le_of_ble_eq_true rfl) d_X_compare_19 (fun r u1 H locs hp hw => ?_)
          obtain ⟨rfl, rfl⟩ := hp
          refine lv_goto (pc := 22) (tgt := 27) hx hb d_X_compare_22 (by decide) ?_
          exact hQ _ _ _ _ _ _ hw (rfl) (⟨acm_in hT hV, rfl⟩) d_X_compare_27
set_option maxHeartbeats 4000000 in
set_option maxRecDepth 100000 in
theorem c_X_apart (l : Launch) (D : va_G) (g : Nat → Nat) (k : Nat → ClassId) (tp : Nat → Int32) {sg ln : Nat → Int32} (ds : Nat → Int32) {n : Nat} {ts : List Tm} (x : Int32) (ht : tok ts sg ln) (hlen : ts.length ≤ 150) {f : Nat → Int32} (h : n ≤ 300) (hf : ∀ i, i < n → tp i = f i ∧ by_ok (f i)) : gMi l y_X_apart (gW y_X_apart b_X_apart 2 (some .int)) (gR 5) D (xT k) (xw g k) [.ref (g 0), .int x] (tp, (nI n), sg, ln, (nI ts.length), ds) (fun r u => (hasT ts x = none ∧ r = -2 ∧ u = (tp, (nI n), sg, ln, (nI ts.length), ds)) ∨ ∃ T, hasT ts x = some T ∧ r = (if isW f n = true then nI (lev T (stm f n)) else -1) ∧ ∃ tp1 sg1 ln1 ds1, u = (tp1, nI 0, sg1, ln1, nI ts.length, ds1) ∧ tok ts sg1 ln1) := by
  rcases hasT_cases ts x hlen with ⟨hT, hk⟩ | ⟨j, T, hj, rfl, hj2, hT⟩
  · refine g_starti (by decide) (Nat.le_of_ble_eq_true rfl) ?_
    intro p ev s m args below meth cd A Q ls hC hQ hl hw
    have hx := hC.1.1
    have hb := hC.1.2.1
    have hl : lv_has ls 2 [(0, .ref (g 0)), (1, .int x)] := hl
    refine lv_aload_n (pc := 0) hx hb d_X_apart_0 rfl (lv_at hl 0 rfl) ?_
    refine lv_iload_n (pc := 1) hx hb d_X_apart_1 rfl (lv_at hl 1 rfl) ?_
    refine g_calli (pc := 2) (as := [.int x]) (rest := []) hC hw (c_X_hasTerm_n l D g k tp _ sg ln _ ds hk) lm_X_hasTerm f_X_hasTerm rfl rfl rfl rfl ⟨by decide, by decide⟩ hl.1 (Nat.le_of_ble_eq_true rfl) d_X_apart_2 (fun r u1 H locs hp hw => ?_)
    obtain ⟨rfl, rfl⟩ := hp
    refine lv_if_ne (pc := 5) (tgt := 11) hx hb d_X_apart_5 (by decide) (fun hc5 => ?_) (fun hc5 => ?_)
    · exact absurd rfl hc5
    · refine lv_bipush (pc := 8) (v := (-2)) hx hb d_X_apart_8 (by decide) ?_
      exact hQ _ _ _ _ _ _ hw (rfl) (Or.inl ⟨hT, rfl, rfl⟩) d_X_apart_10
  · refine g_starti (by decide) (Nat.le_of_ble_eq_true rfl) ?_
    intro p ev s m args below meth cd A Q ls hC hQ hl hw
    have hx := hC.1.1
    have hb := hC.1.2.1
    have hl : lv_has ls 2 [(0, .ref (g 0)), (1, .int (nI j))] := hl
    refine lv_aload_n (pc := 0) hx hb d_X_apart_0 rfl (lv_at hl 0 rfl) ?_
    refine lv_iload_n (pc := 1) hx hb d_X_apart_1 rfl (lv_at hl 1 rfl) ?_
    refine g_calli (pc := 2) (as := [.int (nI j)]) (rest := []) hC hw (c_X_hasTerm_y l D g k tp _ sg ln ds hj hlen) lm_X_hasTerm f_X_hasTerm rfl rfl rfl rfl ⟨by decide, by decide⟩ hl.1 (Nat.le_of_ble_eq_true rfl) d_X_apart_2 (fun r u1 H locs hp hw => ?_)
    obtain ⟨rfl, rfl⟩ := hp
    refine lv_if_ne (pc := 5) (tgt := 11) hx hb d_X_apart_5 (by decide) (fun hc5 => ?_) (fun hc5 => ?_)
    · refine lv_aload_n (pc := 11) hx hb d_X_apart_11 rfl (lv_at hl 0 rfl) ?_
      refine g_calli (pc := 12) (as := []) (rest := []) hC hw (c_X_takeTapeTerm l D g k tp sg ln _ ds h hf) lm_X_takeTapeTerm f_X_takeTapeTerm rfl rfl rfl rfl ⟨by decide, by decide⟩ hl.1 (Nat.le_of_ble_eq_true rfl) d_X_apart_12 (fun r u1 H locs hp hw => ?_)
      rcases hp with ⟨hW, rfl, tp1, sg1, ln1, rfl, hwr⟩ | ⟨hW, rfl, rfl⟩
      · refine lv_if_eq (pc := 15) (tgt := 29) hx hb d_X_apart_15 (by decide) (fun hc15 => ?_) (fun hc15 => ?_)
        · exact absurd hc15 (by decide)
        · refine lv_aload_n (pc := 18) hx hb d_X_apart_18 rfl (lv_at hl 0 rfl) ?_
          refine lv_iload_n (pc := 19) hx hb d_X_apart_19 rfl (lv_at hl 1 rfl) ?_
          refine lv_sipush (pc := 20) (v := nI 150) hx hb d_X_apart_20 (by decide) ?_
          refine g_calli (pc := 23) (as := [.int (nI j), .int (nI 150)]) (rest := []) hC hw (c_X_distance l D g k tp1 _ sg1 ln1 _ ds (a := j) (b := 150) (by omega) (by omega) (wrt_keep hwr (by omega) (ht j _ hj2)) (wrt_at hwr)) lm_X_distance f_X_distance rfl rfl rfl rfl ⟨by decide, by decide⟩ hl.1 (Nat.le_of_ble_eq_true rfl) d_X_apart_23 (fun r u1 H locs hp hw => ?_)
          obtain ⟨rfl, ds1, rfl⟩ := hp
          refine lv_goto (pc := 26) (tgt := 30) hx hb d_X_apart_26 (by decide) ?_
          exact hQ _ _ _ _ _ _ hw (rfl) (Or.inr ⟨T, hT, by rw [if_pos hW], tp1, sg1, ln1, ds1, rfl, tok_keep ht hwr hlen⟩) d_X_apart_30
      · refine lv_if_eq (pc := 15) (tgt := 29) hx hb d_X_apart_15 (by decide) (fun hc15 => ?_) (fun hc15 => ?_)
        · refine lv_iconst (pc := 29) (v := (-1)) hx hb d_X_apart_29 (by decide) ?_
          exact hQ _ _ _ _ _ _ hw (rfl) (Or.inr ⟨T, hT, by rw [if_neg (by rw [hW]; decide)], tp, sg, ln, ds, rfl, ht⟩) d_X_apart_30
        · exact absurd rfl hc15
    · exact absurd hc5 (by decide)
set_option maxHeartbeats 4000000 in
set_option maxRecDepth 100000 in
theorem c_X_nearest (l : Launch) (D : va_G) (g : Nat → Nat) (k : Nat → ClassId) (tp : Nat → Int32) {sg ln : Nat → Int32} (ds : Nat → Int32) {n : Nat} {ts : List Tm} (ht : tok ts sg ln) (hlen : ts.length ≤ 150) {f : Nat → Int32} (h : n ≤ 300) (hf : ∀ i, i < n → tp i = f i ∧ by_ok (f i)) : gMi l y_X_nearest (gW y_X_nearest b_X_nearest 5 (some .int)) (gR 5) D (xT k) (xw g k) [.ref (g 0)] (tp, (nI n), sg, ln, (nI ts.length), ds) (fun r u => r = (if isW f n = true then (nbs ts (stm f n) 25 ts.length).1 else -1) ∧ ∃ tp1 sg1 ln1 ds1, u = (tp1, nI 0, sg1, ln1, nI ts.length, ds1) ∧ tok ts sg1 ln1) := by
  refine g_starti (by decide) (Nat.le_of_ble_eq_true rfl) ?_
  intro p ev s m args below meth cd A Q ls hC hQ hl hw
  have hx := hC.1.1
  have hb := hC.1.2.1
  have hl : lv_has ls 5 [(0, .ref (g 0))] := hl
  refine lv_aload_n (pc := 0) hx hb d_X_nearest_0 rfl (lv_at hl 0 rfl) ?_
  refine g_calli (pc := 1) (as := []) (rest := []) hC hw (c_X_takeTapeTerm l D g k tp sg ln _ ds h hf) lm_X_takeTapeTerm f_X_takeTapeTerm rfl rfl rfl rfl ⟨by decide, by decide⟩ hl.1 (Nat.le_of_ble_eq_true rfl) d_X_nearest_1 (fun r u1 H locs hp hw => ?_)
  rcases hp with ⟨hW, rfl, tp1, sg1, ln1, rfl, hwr⟩ | ⟨hW, rfl, rfl⟩
  · refine lv_if_ne (pc := 4) (tgt := 9) hx hb d_X_nearest_4 (by decide) (fun hc4 => ?_) (fun hc4 => ?_)
    · have ht1 := tok_keep ht hwr hlen
      refine lv_bipush (pc := 9) (v := (-2)) hx hb d_X_nearest_9 (by decide) ?_
      refine lv_istore_n (pc := 11) hx hb d_X_nearest_11 rfl hl (by decide) rfl (fun ls hl => ?_)
      have hl : lv_has ls 5 [(1, .int ((-2))), (0, .ref (g 0))] := hl
      refine lv_bipush (pc := 12) (v := nI 25) hx hb d_X_nearest_12 (by decide) ?_
      refine lv_istore_n (pc := 14) hx hb d_X_nearest_14 rfl hl (by decide) rfl (fun ls hl => ?_)
      have hl : lv_has ls 5 [(2, .int (nI 25)), (1, .int ((-2))), (0, .ref (g 0))] := hl
      refine lv_iconst (pc := 15) (v := nI 0) hx hb d_X_nearest_15 (by decide) ?_
      refine lv_istore_n (pc := 16) hx hb d_X_nearest_16 rfl hl (by decide) rfl (fun ls hl => ?_)
      have hl : lv_has ls 5 [(3, .int (nI 0)), (2, .int (nI 25)), (1, .int ((-2))), (0, .ref (g 0))] := hl
      have lp : ∀ (fu : Nat) (a : Nat) (ds1 : Nat → Int32) (ls : Array Slot) (H : Heap) (locs : List Loc), ts.length - a < fu → lv_has ls 5 [(0, .ref (g 0)), (1, .int ((nbs ts (stm f n) 25 a).1)), (2, .int (nI ((nbs ts (stm f n) 25 a).2))), (3, .int (nI a))] → gH D (xw g k) A s.heap (tp1, (nI 0), sg1, ln1, (nI ts.length), ds1) H locs → (a ≤ ts.length) → W p l ev (gR 5) s m args below meth cd H locs 0 0 Q (F0 m 17 ls []) := by
        intro fu
        induction fu with
        | zero => intro a ds1 ls H locs hn hl hw ha; exact absurd hn (Nat.not_lt_zero _)
        | succ fu ih =>
          intro a ds1 ls H locs hn hl hw ha
          refine lv_iload_n (pc := 17) hx hb d_X_nearest_17 rfl (lv_at hl 3 rfl) ?_
          refine lv_aload_n (pc := 18) hx hb d_X_nearest_18 rfl (lv_at hl 0 rfl) ?_
          refine xg_tc (pc := 19) hC hw d_X_nearest_19 ?_
          refine nc_ge (pc := 22) (tgt := 52) hx hb d_X_nearest_22 (by decide) (by omega) (by omega) (fun hc22 => ?_) (fun hc22 => ?_)
          · have e : a = ts.length := by omega
            subst e
            refine lv_iload_n (pc := 52) hx hb d_X_nearest_52 rfl (lv_at hl 1 rfl) ?_
            exact hQ _ _ _ _ _ _ hw (rfl) (⟨by rw [if_pos hW], tp1, sg1, ln1, ds1, rfl, ht1⟩) d_X_nearest_53
          · have hT : ts[a]? = some ts[a] := List.getElem?_eq_getElem (by omega)
            have hb1 := nbs_le ts (stm f n) 25 a
            have hb2 : lev ts[a] (stm f n) ≤ 24 := lev_le (ht1 a _ hT).1 (stm_le _ _)
            refine lv_aload_n (pc := 25) hx hb d_X_nearest_25 rfl (lv_at hl 0 rfl) ?_
            refine lv_iload_n (pc := 26) hx hb d_X_nearest_26 rfl (lv_at hl 3 rfl) ?_
            refine lv_sipush (pc := 27) (v := nI 150) hx hb d_X_nearest_27 (by decide) ?_
            refine g_calli (pc := 30) (as := [.int (nI a), .int (nI 150)]) (rest := []) hC hw (c_X_distance l D g k tp1 _ sg1 ln1 _ ds1 (a := a) (b := 150) (by omega) (by omega) (ht1 a _ hT) (wrt_at hwr)) lm_X_distance f_X_distance rfl rfl rfl rfl ⟨by decide, by decide⟩ hl.1 (Nat.le_of_ble_eq_true rfl) d_X_nearest_30 (fun r u1 H locs hp hw => ?_)
            obtain ⟨rfl, ds2, rfl⟩ := hp
            refine lv_istore (pc := 33) hx hb d_X_nearest_33 hl (by decide) rfl (fun ls hl => ?_)
            have hl : lv_has ls 5 [(4, .int (nI (lev ts[a] (stm f n)))), (0, .ref (g 0)), (1, .int ((nbs ts (stm f n) 25 a).1)), (2, .int (nI ((nbs ts (stm f n) 25 a).2))), (3, .int (nI a))] := hl
            refine lv_iload (pc := 35) hx hb d_X_nearest_35 (lv_at hl 0 rfl) ?_
            refine lv_iload_n (pc := 37) hx hb d_X_nearest_37 rfl (lv_at hl 3 rfl) ?_
            refine nc_ge (pc := 38) (tgt := 46) hx hb d_X_nearest_38 (by decide) (by omega) (by omega) (fun hc38 => ?_) (fun hc38 => ?_)
            · refine lv_iinc (pc := 46) (k := 4) (v := nI (a + 1)) hx hb d_X_nearest_46 hl rfl (nI_i1 a) (by decide) rfl (fun ls hl => ?_)
              have hl : lv_has ls 5 [(3, .int (nI (a + 1))), (4, .int (nI (lev ts[a] (stm f n)))), (0, .ref (g 0)), (1, .int ((nbs ts (stm f n) 25 a).1)), (2, .int (nI ((nbs ts (stm f n) 25 a).2)))] := hl
              refine lv_goto (pc := 49) (tgt := 17) hx hb d_X_nearest_49 (by decide) ?_
              exact ih (a + 1) ds2 _ _ _ (by omega) (by rw [nbs_n hT (by omega)]; exact (lv_sub hl [2, 3, 4, 0] rfl)) hw (by omega)
            · refine lv_iload (pc := 41) hx hb d_X_nearest_41 (lv_at hl 0 rfl) ?_
              refine lv_istore_n (pc := 43) hx hb d_X_nearest_43 rfl hl (by decide) rfl (fun ls hl => ?_)
              have hl : lv_has ls 5 [(2, .int (nI (lev ts[a] (stm f n)))), (4, .int (nI (lev ts[a] (stm f n)))), (0, .ref (g 0)), (1, .int ((nbs ts (stm f n) 25 a).1)), (3, .int (nI a))] := hl
              refine lv_iload_n (pc := 44) hx hb d_X_nearest_44 rfl (lv_at hl 4 rfl) ?_
              refine lv_istore_n (pc := 45) hx hb d_X_nearest_45 rfl hl (by decide) rfl (fun ls hl => ?_)
              have hl : lv_has ls 5 [(1, .int (nI a)), (2, .int (nI (lev ts[a] (stm f n)))), (4, .int (nI (lev ts[a] (stm f n)))), (0, .ref (g 0)), (3, .int (nI a))] := hl
              refine lv_iinc (pc := 46) (k := 4) (v := nI (a + 1)) hx hb d_X_nearest_46 hl rfl (nI_i1 a) (by decide) rfl (fun ls hl => ?_)
              have hl : lv_has ls 5 [(3, .int (nI (a + 1))), (1, .int (nI a)), (2, .int (nI (lev ts[a] (stm f n)))), (4, .int (nI (lev ts[a] (stm f n)))), (0, .ref (g 0))] := hl
              refine lv_goto (pc := 49) (tgt := 17) hx hb d_X_nearest_49 (by decide) ?_
              exact ih (a + 1) ds2 _ _ _ (by omega) (by rw [nbs_y hT (by omega)]; exact (lv_sub hl [4, 1, 2, 0] rfl)) hw (by omega)
      exact lp (ts.length + 1) 0 ds _ _ _ (by omega) (lv_sub hl [3, 2, 1, 0] rfl) hw (Nat.zero_le _)
    · exact absurd hc4 (by decide)
  · refine lv_if_ne (pc := 4) (tgt := 9) hx hb d_X_nearest_4 (by decide) (fun hc4 => ?_) (fun hc4 => ?_)
    · exact absurd rfl hc4
    · refine lv_iconst (pc := 7) (v := (-1)) hx hb d_X_nearest_7 (by decide) ?_
      exact hQ _ _ _ _ _ _ hw (rfl) (⟨by rw [if_neg (by rw [hW]; decide)], tp, sg, ln, ds, rfl, ht⟩) d_X_nearest_8
set_option maxHeartbeats 4000000 in
set_option maxRecDepth 100000 in
theorem c_X_plain (l : Launch) (D : va_G) (g : Nat → Nat) (k : Nat → ClassId) (tp : Nat → Int32) {sg ln : Nat → Int32} (ds : Nat → Int32) {n : Nat} {ts : List Tm} (ht : tok ts sg ln) (hlen : ts.length ≤ 150) {f : Nat → Int32} (h : n ≤ 300) (hf : ∀ i, i < n → tp i = f i ∧ by_ok (f i)) : gMi l y_X_plain (gW y_X_plain b_X_plain 2 (some .int)) (gR 3) D (xT k) (xw g k) [.ref (g 0)] (tp, (nI n), sg, ln, (nI ts.length), ds) (fun r u => (isW f n = true ∧ ts.length < 150 ∧ r = nI (ts.length + 1) ∧ ∃ sg1 ln1, u = (tp, nI 0, sg1, ln1, nI (ts.length + 1), ds) ∧ wrt sg ln sg1 ln1 ts.length (pln f n)) ∨ (¬ (isW f n = true ∧ ts.length < 150) ∧ r = -1 ∧ u = (tp, nI 0, sg, ln, nI ts.length, ds))) := by
  refine g_starti (by decide) (Nat.le_of_ble_eq_true rfl) ?_
  intro p ev s m args below meth cd A Q ls hC hQ hl hw
  have hx := hC.1.1
  have hb := hC.1.2.1
  have hl : lv_has ls 2 [(0, .ref (g 0))] := hl
  have hW := isW_congr (fun i hi => (hf i hi).1)
  have hpl := pln_ext (w := tp) (v := f) (n := n) (fun i hi => (hf i hi).1)
  refine lv_aload_n (pc := 0) hx hb d_X_plain_0 rfl (lv_at hl 0 rfl) ?_
  refine g_calli (pc := 1) (as := []) (rest := []) hC hw (c_X_tapeIsWord l D g k tp sg ln _ ds h) lm_X_tapeIsWord f_X_tapeIsWord rfl rfl rfl rfl ⟨by decide, by decide⟩ hl.1 (Nat.le_of_ble_eq_true rfl) d_X_plain_1 (fun r u1 H locs hp hw => ?_)
  obtain ⟨rfl, rfl⟩ := hp
  refine g_top (y := bI (isW f n)) (by rw [hW]) ?_
  refine lv_if_eq (pc := 4) (tgt := 21) hx hb d_X_plain_4 (by decide) (fun hc4 => ?_) (fun hc4 => ?_)
  · refine lv_iconst (pc := 21) (v := 0) hx hb d_X_plain_21 (by decide) ?_
    refine lv_istore_n (pc := 22) hx hb d_X_plain_22 rfl hl (by decide) rfl (fun ls hl => ?_)
    have hl : lv_has ls 2 [(1, .int 0), (0, .ref (g 0))] := hl
    refine lv_iload_n (pc := 23) hx hb d_X_plain_23 rfl (lv_at hl 0 rfl) ?_
    refine lv_if_eq (pc := 24) (tgt := 50) hx hb d_X_plain_24 (by decide) (fun hc24 => ?_) (fun hc24 => ?_)
    · refine lv_aload_n (pc := 50) hx hb d_X_plain_50 rfl (lv_at hl 1 rfl) ?_
      refine lv_iconst (pc := 51) (v := nI 0) hx hb d_X_plain_51 (by decide) ?_
      refine xp_tl (pc := 52) hC hw d_X_plain_52 (fun H locs hw => ?_)
      have hw : gH D (xw g k) A _ (tp, (nI 0), sg, ln, (nI ts.length), ds) H locs := hw
      refine lv_iload_n (pc := 55) hx hb d_X_plain_55 rfl (lv_at hl 0 rfl) ?_
      refine lv_if_eq (pc := 56) (tgt := 66) hx hb d_X_plain_56 (by decide) (fun hc56 => ?_) (fun hc56 => ?_)
      · refine lv_iconst (pc := 66) (v := (-1)) hx hb d_X_plain_66 (by decide) ?_
        exact hQ _ _ _ _ _ _ hw (rfl) (Or.inr ⟨fun q => absurd q.1 (by rw [bI_0 hc4]; decide), rfl, rfl⟩) d_X_plain_67
      · exact absurd rfl hc56
    · exact absurd rfl hc24
  · have hy := bI_1 hc4
    refine lv_aload_n (pc := 7) hx hb d_X_plain_7 rfl (lv_at hl 0 rfl) ?_
    refine xg_tc (pc := 8) hC hw d_X_plain_8 ?_
    refine lv_sipush (pc := 11) (v := nI 150) hx hb d_X_plain_11 (by decide) ?_
    refine nc_ge (pc := 14) (tgt := 21) hx hb d_X_plain_14 (by decide) (by omega) (by omega) (fun hc14 => ?_) (fun hc14 => ?_)
    · refine lv_iconst (pc := 21) (v := 0) hx hb d_X_plain_21 (by decide) ?_
      refine lv_istore_n (pc := 22) hx hb d_X_plain_22 rfl hl (by decide) rfl (fun ls hl => ?_)
      have hl : lv_has ls 2 [(1, .int 0), (0, .ref (g 0))] := hl
      refine lv_iload_n (pc := 23) hx hb d_X_plain_23 rfl (lv_at hl 0 rfl) ?_
      refine lv_if_eq (pc := 24) (tgt := 50) hx hb d_X_plain_24 (by decide) (fun hc24 => ?_) (fun hc24 => ?_)
      · refine lv_aload_n (pc := 50) hx hb d_X_plain_50 rfl (lv_at hl 1 rfl) ?_
        refine lv_iconst (pc := 51) (v := nI 0) hx hb d_X_plain_51 (by decide) ?_
        refine xp_tl (pc := 52) hC hw d_X_plain_52 (fun H locs hw => ?_)
        have hw : gH D (xw g k) A _ (tp, (nI 0), sg, ln, (nI ts.length), ds) H locs := hw
        refine lv_iload_n (pc := 55) hx hb d_X_plain_55 rfl (lv_at hl 0 rfl) ?_
        refine lv_if_eq (pc := 56) (tgt := 66) hx hb d_X_plain_56 (by decide) (fun hc56 => ?_) (fun hc56 => ?_)
        · refine lv_iconst (pc := 66) (v := (-1)) hx hb d_X_plain_66 (by decide) ?_
          exact hQ _ _ _ _ _ _ hw (rfl) (Or.inr ⟨fun q => absurd q.2 (by omega), rfl, rfl⟩) d_X_plain_67
        · exact absurd rfl hc56
      · exact absurd rfl hc24
    · refine lv_iconst (pc := 17) (v := 1) hx hb d_X_plain_17 (by decide) ?_
      refine lv_goto (pc := 18) (tgt := 22) hx hb d_X_plain_18 (by decide) ?_
      refine lv_istore_n (pc := 22) hx hb d_X_plain_22 rfl hl (by decide) rfl (fun ls hl => ?_)
      have hl : lv_has ls 2 [(1, .int 1), (0, .ref (g 0))] := hl
      refine lv_iload_n (pc := 23) hx hb d_X_plain_23 rfl (lv_at hl 0 rfl) ?_
      refine lv_if_eq (pc := 24) (tgt := 50) hx hb d_X_plain_24 (by decide) (fun hc24 => ?_) (fun hc24 => ?_)
      · exact absurd hc24 (by decide)
      · refine lv_aload_n (pc := 27) hx hb d_X_plain_27 rfl (lv_at hl 1 rfl) ?_
        refine lv_aload_n (pc := 28) hx hb d_X_plain_28 rfl (lv_at hl 1 rfl) ?_
        refine xg_tc (pc := 29) hC hw d_X_plain_29 ?_
        refine lv_iconst (pc := 32) (v := nI 0) hx hb d_X_plain_32 (by decide) ?_
        refine lv_aload_n (pc := 33) hx hb d_X_plain_33 rfl (lv_at hl 1 rfl) ?_
        refine xg_tl (pc := 34) hC hw d_X_plain_34 ?_
        refine g_callv (pc := 37) (as := [.int (nI (ts.length)), .int (nI 0), .int (nI n)]) (rest := []) hC hw (c_X_writeSigns l D g k tp _ sg ln _ ds (j := ts.length) (a := 0) (b := n) (by omega) (Nat.zero_le _) h (fun i _ q => by rw [(hf i q).1]; exact (hf i q).2)) lm_X_writeSigns f_X_writeSigns rfl rfl rfl rfl ⟨by decide, by decide⟩ hl.1 (Nat.le_of_ble_eq_true rfl) d_X_plain_37 (fun u1 H locs hp hw => ?_)
        obtain ⟨sg1, ln1, rfl, hwr⟩ := hp
        rw [z_add] at hwr
        have hwr := wrt_ext hwr hpl.1 hpl.2
        refine lv_aload_n (pc := 40) hx hb d_X_plain_40 rfl (lv_at hl 1 rfl) ?_
        refine lv_dup (pc := 41) hx hb d_X_plain_41 rfl ?_
        refine xg_tc (pc := 42) hC hw d_X_plain_42 ?_
        refine lv_iconst (pc := 45) (v := nI 1) hx hb d_X_plain_45 (by decide) ?_
        refine lv_iadd (pc := 46) hx hb d_X_plain_46 ?_
        refine g_top (y := nI (ts.length + 1)) (nI_add _ _) ?_
        refine xp_tc (pc := 47) hC hw d_X_plain_47 (fun H locs hw => ?_)
        have hw : gH D (xw g k) A _ (tp, (nI n), sg1, ln1, (nI (ts.length + 1)), ds) H locs := hw
        refine lv_aload_n (pc := 50) hx hb d_X_plain_50 rfl (lv_at hl 1 rfl) ?_
        refine lv_iconst (pc := 51) (v := nI 0) hx hb d_X_plain_51 (by decide) ?_
        refine xp_tl (pc := 52) hC hw d_X_plain_52 (fun H locs hw => ?_)
        have hw : gH D (xw g k) A _ (tp, (nI 0), sg1, ln1, (nI (ts.length + 1)), ds) H locs := hw
        refine lv_iload_n (pc := 55) hx hb d_X_plain_55 rfl (lv_at hl 0 rfl) ?_
        refine lv_if_eq (pc := 56) (tgt := 66) hx hb d_X_plain_56 (by decide) (fun hc56 => ?_) (fun hc56 => ?_)
        · exact absurd hc56 (by decide)
        · refine lv_aload_n (pc := 59) hx hb d_X_plain_59 rfl (lv_at hl 1 rfl) ?_
          refine xg_tc (pc := 60) hC hw d_X_plain_60 ?_
          refine lv_goto (pc := 63) (tgt := 67) hx hb d_X_plain_63 (by decide) ?_
          exact hQ _ _ _ _ _ _ hw (rfl) (Or.inl ⟨hy, hc14, rfl, sg1, ln1, rfl, hwr⟩) d_X_plain_67
