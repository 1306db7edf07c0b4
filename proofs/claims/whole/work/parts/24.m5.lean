set_option maxHeartbeats 4000000 in
set_option maxRecDepth 100000 in
theorem c_M_distance (l : Launch) (D : va_G) (g : Nat → Nat) (k : Nat → ClassId) (tp : Nat → Int32) (tl : Int32) (tm sz : Nat → Int32) (ct : Int32) (wd : Nat → Int32) (wl : Int32) (tb : Nat → Int32) {a b : Nat} {T V : Tm} (ha : a < 151) (hb0 : b < 151) (hT : tat tm sz a T) (hV : tat tm sz b V) : gMi l y_M_distance (gW y_M_distance b_M_distance 7 (some .int)) (gR 0) D (mT k) (mw g k) [.ref (g 0), .int (nI a), .int (nI b)] (tp, tl, tm, sz, ct, wd, wl, tb) (fun r u => r = nI (lev T V) ∧ ∃ tb1, u = (tp, tl, tm, sz, ct, wd, wl, tb1)) := by
  refine g_starti (by decide) (Nat.le_of_ble_eq_true rfl) ?_
  intro p ev s m args below meth cd A Q ls hC hQ hl hw
  have hx := hC.1.1
  have hb := hC.1.2.1
  have hl : lv_has ls 7 [(0, .ref (g 0)), (1, .int (nI a)), (2, .int (nI b))] := hl
  obtain ⟨t1, t2, t3⟩ := hT
  obtain ⟨v1, v2, v3⟩ := hV
  refine lv_bipush (pc := 0) (v := nI 25) hx hb d_M_distance_0 (by decide) ?_
  refine lv_istore_n (pc := 2) hx hb d_M_distance_2 rfl hl (by decide) rfl (fun ls hl => ?_)
  have hl : lv_has ls 7 [(3, .int (nI 25)), (0, .ref (g 0)), (1, .int (nI a)), (2, .int (nI b))] := hl
  refine lv_iconst (pc := 3) (v := nI 0) hx hb d_M_distance_3 (by decide) ?_
  refine lv_istore (pc := 4) hx hb d_M_distance_4 hl (by decide) rfl (fun ls hl => ?_)
  have hl : lv_has ls 7 [(4, .int (nI 0)), (3, .int (nI 25)), (0, .ref (g 0)), (1, .int (nI a)), (2, .int (nI b))] := hl
  have lp : ∀ (fu : Nat) (x : Nat) (tb1 : Nat → Int32) (ls : Array Slot) (H : Heap) (locs : List Loc), T.1 + 1 - x < fu → lv_has ls 7 [(0, .ref (g 0)), (1, .int (nI a)), (2, .int (nI b)), (3, .int (nI 25)), (4, .int (nI x))] → gH D (mw g k) A s.heap (tp, tl, tm, sz, ct, wd, wl, tb1) H locs → (x ≤ T.1 + 1) → (∀ r q, r < x → q ≤ V.1 → tb1 (25 * r + q) = nI (lvr T.2 V.2 r q)) → W p l ev (gR 0) s m args below meth cd H locs 0 0 Q (F0 m 6 ls []) := by
    intro fu
    induction fu with
    | zero => intro x tb1 ls H locs hn hl hw hx1 hd; exact absurd hn (Nat.not_lt_zero _)
    | succ fu ih =>
      intro x tb1 ls H locs hn hl hw hx1 hd
      refine lv_iload (pc := 6) hx hb d_M_distance_6 (lv_at hl 4 rfl) ?_
      refine lv_aload_n (pc := 8) hx hb d_M_distance_8 rfl (lv_at hl 0 rfl) ?_
      refine mg_sz (pc := 9) hC hw d_M_distance_9 ?_
      refine lv_iload_n (pc := 12) hx hb d_M_distance_12 rfl (lv_at hl 1 rfl) ?_
      refine ml_sz (pc := 13) (i := a) (by omega) hC hw d_M_distance_13 ?_
      refine g_top (y := nI T.1) (t2) ?_
      refine nc_gt (pc := 14) (tgt := 225) hx hb d_M_distance_14 (by decide) (by omega) (by omega) (fun hc14 => ?_) (fun hc14 => ?_)
      · refine lv_aload_n (pc := 225) hx hb d_M_distance_225 rfl (lv_at hl 0 rfl) ?_
        refine mg_tb (pc := 226) hC hw d_M_distance_226 ?_
        refine lv_iload_n (pc := 229) hx hb d_M_distance_229 rfl (lv_at hl 3 rfl) ?_
        refine lv_aload_n (pc := 230) hx hb d_M_distance_230 rfl (lv_at hl 0 rfl) ?_
        refine mg_sz (pc := 231) hC hw d_M_distance_231 ?_
        refine lv_iload_n (pc := 234) hx hb d_M_distance_234 rfl (lv_at hl 1 rfl) ?_
        refine ml_sz (pc := 235) (i := a) (by omega) hC hw d_M_distance_235 ?_
        refine g_top (y := nI T.1) (t2) ?_
        refine lv_imul (pc := 236) hx hb d_M_distance_236 ?_
        refine g_top (y := nI (25 * T.1)) (pk_mul _ _) ?_
        refine lv_aload_n (pc := 237) hx hb d_M_distance_237 rfl (lv_at hl 0 rfl) ?_
        refine mg_sz (pc := 238) hC hw d_M_distance_238 ?_
        refine lv_iload_n (pc := 241) hx hb d_M_distance_241 rfl (lv_at hl 2 rfl) ?_
        refine ml_sz (pc := 242) (i := b) (by omega) hC hw d_M_distance_242 ?_
        refine g_top (y := nI V.1) (v2) ?_
        refine lv_iadd (pc := 243) hx hb d_M_distance_243 ?_
        refine g_top (y := nI (25 * T.1 + V.1)) (nI_add _ _) ?_
        refine ml_tb (pc := 244) (i := 25 * T.1 + V.1) (by omega) hC hw d_M_distance_244 ?_
        refine g_top (y := nI (lev T V)) (hd T.1 V.1 (by omega) (Nat.le_refl _)) ?_
        exact hQ _ _ _ _ _ _ hw (rfl) (⟨rfl, _, rfl⟩) d_M_distance_245
      · refine lv_iconst (pc := 17) (v := nI 0) hx hb d_M_distance_17 (by decide) ?_
        refine lv_istore (pc := 18) hx hb d_M_distance_18 hl (by decide) rfl (fun ls hl => ?_)
        have hl : lv_has ls 7 [(5, .int (nI 0)), (0, .ref (g 0)), (1, .int (nI a)), (2, .int (nI b)), (3, .int (nI 25)), (4, .int (nI x))] := hl
        have lp3 : ∀ (fu : Nat) (y : Nat) (tb2 : Nat → Int32) (ls : Array Slot) (H : Heap) (locs : List Loc), V.1 + 1 - y < fu → lv_has ls 7 [(0, .ref (g 0)), (1, .int (nI a)), (2, .int (nI b)), (3, .int (nI 25)), (4, .int (nI x)), (5, .int (nI y))] → gH D (mw g k) A s.heap (tp, tl, tm, sz, ct, wd, wl, tb2) H locs → (y ≤ V.1 + 1) → (∀ r q, r < x → q ≤ V.1 → tb2 (25 * r + q) = nI (lvr T.2 V.2 r q)) → (∀ q, q < y → tb2 (25 * x + q) = nI (lvr T.2 V.2 x q)) → W p l ev (gR 0) s m args below meth cd H locs 0 0 Q (F0 m 20 ls []) := by
          intro fu
          induction fu with
          | zero => intro y tb2 ls H locs hn3 hl hw hy1 he1 he2; exact absurd hn3 (Nat.not_lt_zero _)
          | succ fu ih3 =>
            intro y tb2 ls H locs hn3 hl hw hy1 he1 he2
            refine lv_iload (pc := 20) hx hb d_M_distance_20 (lv_at hl 5 rfl) ?_
            refine lv_aload_n (pc := 22) hx hb d_M_distance_22 rfl (lv_at hl 0 rfl) ?_
            refine mg_sz (pc := 23) hC hw d_M_distance_23 ?_
            refine lv_iload_n (pc := 26) hx hb d_M_distance_26 rfl (lv_at hl 2 rfl) ?_
            refine ml_sz (pc := 27) (i := b) (by omega) hC hw d_M_distance_27 ?_
            refine g_top (y := nI V.1) (v2) ?_
            refine nc_gt (pc := 28) (tgt := 219) hx hb d_M_distance_28 (by decide) (by omega) (by omega) (fun hc28 => ?_) (fun hc28 => ?_)
            · refine lv_iinc (pc := 219) (k := 4) (v := nI (x + 1)) hx hb d_M_distance_219 hl rfl (nI_i1 x) (by decide) rfl (fun ls hl => ?_)
              have hl : lv_has ls 7 [(4, .int (nI (x + 1))), (0, .ref (g 0)), (1, .int (nI a)), (2, .int (nI b)), (3, .int (nI 25)), (5, .int (nI y))] := hl
              refine lv_goto (pc := 222) (tgt := 6) hx hb d_M_distance_222 (by decide) ?_
              exact ih (x + 1) tb2 _ _ _ (by omega) (lv_sub hl [1, 2, 3, 4, 0] rfl) hw (by omega) (fun r q h1 h2 => by
                  by_cases er : r = x
                  · rw [er]; exact he2 q (by omega)
                  · exact he1 r q (by omega) h2)
            · have t199 : ∀ (ls : Array Slot), lv_has ls 7 [(0, .ref (g 0)), (1, .int (nI a)), (2, .int (nI b)), (3, .int (nI 25)), (4, .int (nI x)), (5, .int (nI y)), (6, .int (nI (lvr T.2 V.2 x y)))] → W p l ev (gR 0) s m args below meth cd H locs 0 0 Q (F0 m 199 ls []) := by
                intro ls hl
                refine lv_aload_n (pc := 199) hx hb d_M_distance_199 rfl (lv_at hl 0 rfl) ?_
                refine mg_tb (pc := 200) hC hw d_M_distance_200 ?_
                refine lv_iload_n (pc := 203) hx hb d_M_distance_203 rfl (lv_at hl 3 rfl) ?_
                refine lv_iload (pc := 204) hx hb d_M_distance_204 (lv_at hl 4 rfl) ?_
                refine lv_imul (pc := 206) hx hb d_M_distance_206 ?_
                refine g_top (y := nI (25 * x)) (pk_mul _ _) ?_
                refine lv_iload (pc := 207) hx hb d_M_distance_207 (lv_at hl 5 rfl) ?_
                refine lv_iadd (pc := 209) hx hb d_M_distance_209 ?_
                refine g_top (y := nI ((25 * x) + y)) (nI_add _ _) ?_
                refine lv_iload (pc := 210) hx hb d_M_distance_210 (lv_at hl 6 rfl) ?_
                refine ms_tb (pc := 212) (i := (25 * x) + y) (x := nI (lvr T.2 V.2 x y)) (by omega) hC hw d_M_distance_212 (fun H locs hw => ?_)
                refine lv_iinc (pc := 213) (k := 5) (v := nI (y + 1)) hx hb d_M_distance_213 hl rfl (nI_i1 y) (by decide) rfl (fun ls hl => ?_)
                have hl : lv_has ls 7 [(5, .int (nI (y + 1))), (0, .ref (g 0)), (1, .int (nI a)), (2, .int (nI b)), (3, .int (nI 25)), (4, .int (nI x)), (6, .int (nI (lvr T.2 V.2 x y)))] := hl
                refine lv_goto (pc := 216) (tgt := 20) hx hb d_M_distance_216 (by decide) ?_
                refine ih3 (y + 1) _ _ _ _ (by omega) (lv_sub hl [1, 2, 3, 4, 5, 0] rfl) hw (by omega) (fun r q h1 h2 => ?_) (fun q h1 => ?_)
                · rw [pk_un (by omega)]; exact he1 r q h1 h2
                · by_cases eq : q = y
                  · rw [eq, pk_us]
                  · rw [pk_un (by omega)]; exact he2 q (by omega)
              refine lv_iload (pc := 31) hx hb d_M_distance_31 (lv_at hl 4 rfl) ?_
              refine lv_if_ne (pc := 33) (tgt := 41) hx hb d_M_distance_33 (by decide) (fun hc33 => ?_) (fun hc33 => ?_)
              · obtain ⟨x, rfl⟩ : ∃ x1, x = x1 + 1 := ⟨x - 1, by have : x ≠ 0 := fun q => hc33 (by rw [q]; rfl); omega⟩
                refine lv_iload (pc := 41) hx hb d_M_distance_41 (lv_at hl 5 rfl) ?_
                refine lv_if_ne (pc := 43) (tgt := 51) hx hb d_M_distance_43 (by decide) (fun hc43 => ?_) (fun hc43 => ?_)
                · obtain ⟨y, rfl⟩ : ∃ y1, y = y1 + 1 := ⟨y - 1, by have : y ≠ 0 := fun q => hc43 (by rw [q]; rfl); omega⟩
                  refine lv_sipush (pc := 51) (v := nI 1000) hx hb d_M_distance_51 (by decide) ?_
                  refine lv_istore (pc := 54) hx hb d_M_distance_54 hl (by decide) rfl (fun ls hl => ?_)
                  have hl : lv_has ls 7 [(6, .int (nI 1000)), (0, .ref (g 0)), (1, .int (nI a)), (2, .int (nI b)), (3, .int (nI 25)), (4, .int (nI (x + 1))), (5, .int (nI (y + 1)))] := hl
                  refine lv_iload (pc := 56) hx hb d_M_distance_56 (lv_at hl 5 rfl) ?_
                  refine lv_if_le (pc := 58) (tgt := 199) hx hb d_M_distance_58 (by decide) (fun hc58 => ?_) (fun hc58 => ?_)
                  · exact absurd hc58 (nI_nle (by omega) (by omega))
                  · refine lv_iload (pc := 61) hx hb d_M_distance_61 (lv_at hl 6 rfl) ?_
                    refine lv_if_le (pc := 63) (tgt := 199) hx hb d_M_distance_63 (by decide) (fun hc63 => ?_) (fun hc63 => ?_)
                    · exact absurd hc63 (nI_nle (by omega) (by omega))
                    · have b1 : lvr T.2 V.2 x y ≤ 24 := Nat.le_trans (lvr_le _ _ _ _) (by omega)
                      have b2 : lvr T.2 V.2 x (y + 1) ≤ 24 := Nat.le_trans (lvr_le _ _ _ _) (by omega)
                      have b3 : lvr T.2 V.2 (x + 1) y ≤ 24 := Nat.le_trans (lvr_le _ _ _ _) (by omega)
                      have hss := lvr_ss T.2 V.2 x y
                      refine lv_aload_n (pc := 66) hx hb d_M_distance_66 rfl (lv_at hl 1 rfl) ?_
                      refine mg_tb (pc := 67) hC hw d_M_distance_67 ?_
                      refine lv_iload_n (pc := 70) hx hb d_M_distance_70 rfl (lv_at hl 4 rfl) ?_
                      refine lv_iload (pc := 71) hx hb d_M_distance_71 (lv_at hl 5 rfl) ?_
                      refine lv_iconst (pc := 73) (v := nI 1) hx hb d_M_distance_73 (by decide) ?_
                      refine lv_isub (pc := 74) hx hb d_M_distance_74 ?_
                      refine g_top (y := nI x) (nI_pred x) ?_
                      refine lv_imul (pc := 75) hx hb d_M_distance_75 ?_
                      refine g_top (y := nI (25 * x)) (pk_mul _ _) ?_
                      refine lv_iload (pc := 76) hx hb d_M_distance_76 (lv_at hl 6 rfl) ?_
                      refine lv_iadd (pc := 78) hx hb d_M_distance_78 ?_
                      refine g_top (y := nI ((25 * x) + (y + 1))) (nI_add _ _) ?_
                      refine lv_iconst (pc := 79) (v := nI 1) hx hb d_M_distance_79 (by decide) ?_
                      refine lv_isub (pc := 80) hx hb d_M_distance_80 ?_
                      refine g_top (y := nI (25 * x + y)) ((pk_sub (by omega)).trans (congrArg nI (by omega))) ?_
                      refine ml_tb (pc := 81) (i := 25 * x + y) (by omega) hC hw d_M_distance_81 ?_
                      refine g_top (y := nI (lvr T.2 V.2 x y)) (he1 x y (by omega) (by omega)) ?_
                      refine lv_aload_n (pc := 82) hx hb d_M_distance_82 rfl (lv_at hl 1 rfl) ?_
                      refine mg_tm (pc := 83) hC hw d_M_distance_83 ?_
                      refine lv_bipush (pc := 86) (v := nI 24) hx hb d_M_distance_86 (by decide) ?_
                      refine lv_iload_n (pc := 88) hx hb d_M_distance_88 rfl (lv_at hl 2 rfl) ?_
                      refine lv_imul (pc := 89) hx hb d_M_distance_89 ?_
                      refine g_top (y := nI (24 * a)) (pk_mul _ _) ?_
                      refine lv_iload (pc := 90) hx hb d_M_distance_90 (lv_at hl 5 rfl) ?_
                      refine lv_iadd (pc := 92) hx hb d_M_distance_92 ?_
                      refine g_top (y := nI ((24 * a) + (x + 1))) (nI_add _ _) ?_
                      refine lv_iconst (pc := 93) (v := nI 1) hx hb d_M_distance_93 (by decide) ?_
                      refine lv_isub (pc := 94) hx hb d_M_distance_94 ?_
                      refine g_top (y := nI (24 * a + x)) ((pk_sub (by omega)).trans (congrArg nI (by omega))) ?_
                      refine ml_tm (pc := 95) (i := 24 * a + x) (by omega) hC hw d_M_distance_95 ?_
                      refine g_top (y := T.2 x) (t3 x (by omega)) ?_
                      refine lv_aload_n (pc := 96) hx hb d_M_distance_96 rfl (lv_at hl 1 rfl) ?_
                      refine mg_tm (pc := 97) hC hw d_M_distance_97 ?_
                      refine lv_bipush (pc := 100) (v := nI 24) hx hb d_M_distance_100 (by decide) ?_
                      refine lv_iload_n (pc := 102) hx hb d_M_distance_102 rfl (lv_at hl 3 rfl) ?_
                      refine lv_imul (pc := 103) hx hb d_M_distance_103 ?_
                      refine g_top (y := nI (24 * b)) (pk_mul _ _) ?_
                      refine lv_iload (pc := 104) hx hb d_M_distance_104 (lv_at hl 6 rfl) ?_
                      refine lv_iadd (pc := 106) hx hb d_M_distance_106 ?_
                      refine g_top (y := nI ((24 * b) + (y + 1))) (nI_add _ _) ?_
                      refine lv_iconst (pc := 107) (v := nI 1) hx hb d_M_distance_107 (by decide) ?_
                      refine lv_isub (pc := 108) hx hb d_M_distance_108 ?_
                      refine g_top (y := nI (24 * b + y)) ((pk_sub (by omega)).trans (congrArg nI (by omega))) ?_
                      refine ml_tm (pc := 109) (i := 24 * b + y) (by omega) hC hw d_M_distance_109 ?_
                      refine g_top (y := V.2 y) (v3 y (by omega)) ?_
                      refine lv_icmp_ne (pc := 110) (tgt := 117) hx hb d_M_distance_110 (by decide) (fun hc110 => ?_) (fun hc110 => ?_)
                      · rw [if_neg hc110] at hss
                        refine lv_iconst (pc := 117) (v := nI 1) hx hb d_M_distance_117 (by decide) ?_
                        refine lv_iadd (pc := 118) hx hb d_M_distance_118 ?_
                        refine g_top (y := nI ((lvr T.2 V.2 x y) + 1)) (nI_add _ _) ?_
                        refine lv_istore (pc := 119) hx hb d_M_distance_119 hl (by decide) rfl (fun ls hl => ?_)
                        have hl : lv_has ls 7 [(6, .int (nI ((lvr T.2 V.2 x y) + 1))), (0, .ref (g 0)), (1, .int (nI a)), (2, .int (nI b)), (3, .int (nI 25)), (4, .int (nI (x + 1))), (5, .int (nI (y + 1)))] := hl
                        refine lv_aload_n (pc := 121) hx hb d_M_distance_121 rfl (lv_at hl 1 rfl) ?_
                        refine mg_tb (pc := 122) hC hw d_M_distance_122 ?_
                        refine lv_iload_n (pc := 125) hx hb d_M_distance_125 rfl (lv_at hl 4 rfl) ?_
                        refine lv_iload (pc := 126) hx hb d_M_distance_126 (lv_at hl 5 rfl) ?_
                        refine lv_iconst (pc := 128) (v := nI 1) hx hb d_M_distance_128 (by decide) ?_
                        refine lv_isub (pc := 129) hx hb d_M_distance_129 ?_
                        refine g_top (y := nI x) (nI_pred x) ?_
                        refine lv_imul (pc := 130) hx hb d_M_distance_130 ?_
                        refine g_top (y := nI (25 * x)) (pk_mul _ _) ?_
                        refine lv_iload (pc := 131) hx hb d_M_distance_131 (lv_at hl 6 rfl) ?_
                        refine lv_iadd (pc := 133) hx hb d_M_distance_133 ?_
                        refine g_top (y := nI ((25 * x) + (y + 1))) (nI_add _ _) ?_
                        refine ml_tb (pc := 134) (i := (25 * x) + (y + 1)) (by omega) hC hw d_M_distance_134 ?_
                        refine g_top (y := nI (lvr T.2 V.2 x (y + 1))) (he1 x (y + 1) (by omega) (by omega)) ?_
                        refine lv_iconst (pc := 135) (v := nI 1) hx hb d_M_distance_135 (by decide) ?_
                        refine lv_iadd (pc := 136) hx hb d_M_distance_136 ?_
                        refine g_top (y := nI ((lvr T.2 V.2 x (y + 1)) + 1)) (nI_add _ _) ?_
                        refine lv_iload (pc := 137) hx hb d_M_distance_137 (lv_at hl 0 rfl) ?_
                        refine nc_ge (pc := 139) (tgt := 160) hx hb d_M_distance_139 (by decide) (by omega) (by omega) (fun hc139 => ?_) (fun hc139 => ?_)
                        · refine lv_aload_n (pc := 160) hx hb d_M_distance_160 rfl (lv_at hl 1 rfl) ?_
                          refine mg_tb (pc := 161) hC hw d_M_distance_161 ?_
                          refine lv_iload_n (pc := 164) hx hb d_M_distance_164 rfl (lv_at hl 4 rfl) ?_
                          refine lv_iload (pc := 165) hx hb d_M_distance_165 (lv_at hl 5 rfl) ?_
                          refine lv_imul (pc := 167) hx hb d_M_distance_167 ?_
                          refine g_top (y := nI (25 * (x + 1))) (pk_mul _ _) ?_
                          refine lv_iload (pc := 168) hx hb d_M_distance_168 (lv_at hl 6 rfl) ?_
                          refine lv_iadd (pc := 170) hx hb d_M_distance_170 ?_
                          refine g_top (y := nI ((25 * (x + 1)) + (y + 1))) (nI_add _ _) ?_
                          refine lv_iconst (pc := 171) (v := nI 1) hx hb d_M_distance_171 (by decide) ?_
                          refine lv_isub (pc := 172) hx hb d_M_distance_172 ?_
                          refine g_top (y := nI (25 * (x + 1) + y)) ((pk_sub (by omega)).trans (congrArg nI (by omega))) ?_
                          refine ml_tb (pc := 173) (i := 25 * (x + 1) + y) (by omega) hC hw d_M_distance_173 ?_
                          refine g_top (y := nI (lvr T.2 V.2 (x + 1) y)) (he2 y (by omega)) ?_
                          refine lv_iconst (pc := 174) (v := nI 1) hx hb d_M_distance_174 (by decide) ?_
                          refine lv_iadd (pc := 175) hx hb d_M_distance_175 ?_
                          refine g_top (y := nI ((lvr T.2 V.2 (x + 1) y) + 1)) (nI_add _ _) ?_
                          refine lv_iload (pc := 176) hx hb d_M_distance_176 (lv_at hl 0 rfl) ?_
                          refine nc_ge (pc := 178) (tgt := 199) hx hb d_M_distance_178 (by decide) (by omega) (by omega) (fun hc178 => ?_) (fun hc178 => ?_)
                          · exact t199 _ (by rw [show lvr T.2 V.2 (x + 1) (y + 1) = (lvr T.2 V.2 x y) + 1 by rw [hss]; omega]; exact (lv_sub hl [1, 2, 3, 4, 5, 6, 0] rfl))
                          · refine lv_aload_n (pc := 181) hx hb d_M_distance_181 rfl (lv_at hl 1 rfl) ?_
                            refine mg_tb (pc := 182) hC hw d_M_distance_182 ?_
                            refine lv_iload_n (pc := 185) hx hb d_M_distance_185 rfl (lv_at hl 4 rfl) ?_
                            refine lv_iload (pc := 186) hx hb d_M_distance_186 (lv_at hl 5 rfl) ?_
                            refine lv_imul (pc := 188) hx hb d_M_distance_188 ?_
                            refine g_top (y := nI (25 * (x + 1))) (pk_mul _ _) ?_
                            refine lv_iload (pc := 189) hx hb d_M_distance_189 (lv_at hl 6 rfl) ?_
                            refine lv_iadd (pc := 191) hx hb d_M_distance_191 ?_
                            refine g_top (y := nI ((25 * (x + 1)) + (y + 1))) (nI_add _ _) ?_
                            refine lv_iconst (pc := 192) (v := nI 1) hx hb d_M_distance_192 (by decide) ?_
                            refine lv_isub (pc := 193) hx hb d_M_distance_193 ?_
                            refine g_top (y := nI (25 * (x + 1) + y)) ((pk_sub (by omega)).trans (congrArg nI (by omega))) ?_
                            refine ml_tb (pc := 194) (i := 25 * (x + 1) + y) (by omega) hC hw d_M_distance_194 ?_
                            refine g_top (y := nI (lvr T.2 V.2 (x + 1) y)) (he2 y (by omega)) ?_
                            refine lv_iconst (pc := 195) (v := nI 1) hx hb d_M_distance_195 (by decide) ?_
                            refine lv_iadd (pc := 196) hx hb d_M_distance_196 ?_
                            refine g_top (y := nI ((lvr T.2 V.2 (x + 1) y) + 1)) (nI_add _ _) ?_
                            refine lv_istore (pc := 197) hx hb d_M_distance_197 hl (by decide) rfl (fun ls hl => ?_)
                            have hl : lv_has ls 7 [(6, .int (nI ((lvr T.2 V.2 (x + 1) y) + 1))), (0, .ref (g 0)), (1, .int (nI a)), (2, .int (nI b)), (3, .int (nI 25)), (4, .int (nI (x + 1))), (5, .int (nI (y + 1)))] := hl
                            exact t199 _ (by rw [show lvr T.2 V.2 (x + 1) (y + 1) = (lvr T.2 V.2 (x + 1) y) + 1 by rw [hss]; omega]; exact (lv_sub hl [1, 2, 3, 4, 5, 6, 0] rfl))
                        · refine lv_aload_n (pc := 142) hx hb d_M_distance_142 rfl (lv_at hl 1 rfl) ?_
                          refine mg_tb (pc := 143) hC hw d_M_distance_143 ?_
                          refine lv_iload_n (pc := 146) hx hb d_M_distance_146 rfl (lv_at hl 4 rfl) ?_
                          refine lv_iload (pc := 147) hx hb d_M_distance_147 (lv_at hl 5 rfl) ?_
                          refine lv_iconst (pc := 149) (v := nI 1) hx hb d_M_distance_149 (by decide) ?_
                          refine lv_isub (pc := 150) hx hb d_M_distance_150 ?_
                          refine g_top (y := nI x) (nI_pred x) ?_
                          refine lv_imul (pc := 151) hx hb d_M_distance_151 ?_
                          refine g_top (y := nI (25 * x)) (pk_mul _ _) ?_
                          refine lv_iload (pc := 152) hx hb d_M_distance_152 (lv_at hl 6 rfl) ?_
                          refine lv_iadd (pc := 154) hx hb d_M_distance_154 ?_
                          refine g_top (y := nI ((25 * x) + (y + 1))) (nI_add _ _) ?_
                          refine ml_tb (pc := 155) (i := (25 * x) + (y + 1)) (by omega) hC hw d_M_distance_155 ?_
                          refine g_top (y := nI (lvr T.2 V.2 x (y + 1))) (he1 x (y + 1) (by omega) (by omega)) ?_
                          refine lv_iconst (pc := 156) (v := nI 1) hx hb d_M_distance_156 (by decide) ?_
                          refine lv_iadd (pc := 157) hx hb d_M_distance_157 ?_
                          refine g_top (y := nI ((lvr T.2 V.2 x (y + 1)) + 1)) (nI_add _ _) ?_
                          refine lv_istore (pc := 158) hx hb d_M_distance_158 hl (by decide) rfl (fun ls hl => ?_)
                          have hl : lv_has ls 7 [(6, .int (nI ((lvr T.2 V.2 x (y + 1)) + 1))), (0, .ref (g 0)), (1, .int (nI a)), (2, .int (nI b)), (3, .int (nI 25)), (4, .int (nI (x + 1))), (5, .int (nI (y + 1)))] := hl
                          refine lv_aload_n (pc := 160) hx hb d_M_distance_160 rfl (lv_at hl 1 rfl) ?_
                          refine mg_tb (pc := 161) hC hw d_M_distance_161 ?_
                          refine lv_iload_n (pc := 164) hx hb d_M_distance_164 rfl (lv_at hl 4 rfl) ?_
                          refine lv_iload (pc := 165) hx hb d_M_distance_165 (lv_at hl 5 rfl) ?_
                          refine lv_imul (pc := 167) hx hb d_M_distance_167 ?_
                          refine g_top (y := nI (25 * (x + 1))) (pk_mul _ _) ?_
                          refine lv_iload (pc := 168) hx hb d_M_distance_168 (lv_at hl 6 rfl) ?_
                          refine lv_iadd (pc := 170) hx hb d_M_distance_170 ?_
                          refine g_top (y := nI ((25 * (x + 1)) + (y + 1))) (nI_add _ _) ?_
                          refine lv_iconst (pc := 171) (v := nI 1) hx hb d_M_distance_171 (by decide) ?_
                          refine lv_isub (pc := 172) hx hb d_M_distance_172 ?_
                          refine g_top (y := nI (25 * (x + 1) + y)) ((pk_sub (by omega)).trans (congrArg nI (by omega))) ?_
                          refine ml_tb (pc := 173) (i := 25 * (x + 1) + y) (by omega) hC hw d_M_distance_173 ?_
                          refine g_top (y := nI (lvr T.2 V.2 (x + 1) y)) (he2 y (by omega)) ?_
                          refine lv_iconst (pc := 174) (v := nI 1) hx hb d_M_distance_174 (by decide) ?_
                          refine lv_iadd (pc := 175) hx hb d_M_distance_175 ?_
                          refine g_top (y := nI ((lvr T.2 V.2 (x + 1) y) + 1)) (nI_add _ _) ?_
                          refine lv_iload (pc := 176) hx hb d_M_distance_176 (lv_at hl 0 rfl) ?_
                          refine nc_ge (pc := 178) (tgt := 199) hx hb d_M_distance_178 (by decide) (by omega) (by omega) (fun hc178 => ?_) (fun hc178 => ?_)
                          · exact t199 _ (by rw [show lvr T.2 V.2 (x + 1) (y + 1) = (lvr T.2 V.2 x (y + 1)) + 1 by rw [hss]; omega]; exact (lv_sub hl [1, 2, 3, 4, 5, 6, 0] rfl))
                          · refine lv_aload_n (pc := 181) hx hb d_M_distance_181 rfl (lv_at hl 1 rfl) ?_
                            refine mg_tb (pc := 182) hC hw d_M_distance_182 ?_
                            refine lv_iload_n (pc := 185) hx hb d_M_distance_185 rfl (lv_at hl 4 rfl) ?_
                            refine lv_iload (pc := 186) hx hb d_M_distance_186 (lv_at hl 5 rfl) ?_
                            refine lv_imul (pc := 188) hx hb d_M_distance_188 ?_
                            refine g_top (y := nI (25 * (x + 1))) (pk_mul _ _) ?_
                            refine lv_iload (pc := 189) hx hb d_M_distance_189 (lv_at hl 6 rfl) ?_
                            refine lv_iadd (pc := 191) hx hb d_M_distance_191 ?_
                            refine g_top (y := nI ((25 * (x + 1)) + (y + 1))) (nI_add _ _) ?_
                            refine lv_iconst (pc := 192) (v := nI 1) hx hb d_M_distance_192 (by decide) ?_
                            refine lv_isub (pc := 193) hx hb d_M_distance_193 ?_
                            refine g_top (y := nI (25 * (x + 1) + y)) ((pk_sub (by omega)).trans (congrArg nI (by omega))) ?_
                            refine ml_tb (pc := 194) (i := 25 * (x + 1) + y) (by omega) hC hw d_M_distance_194 ?_
                            refine g_top (y := nI (lvr T.2 V.2 (x + 1) y)) (he2 y (by omega)) ?_
                            refine lv_iconst (pc := 195) (v := nI 1) hx hb d_M_distance_195 (by decide) ?_
                            refine lv_iadd (pc := 196) hx hb d_M_distance_196 ?_
                            refine g_top (y := nI ((lvr T.2 V.2 (x + 1) y) + 1)) (nI_add _ _) ?_
                            refine lv_istore (pc := 197) hx hb d_M_distance_197 hl (by decide) rfl (fun ls hl => ?_)
                            have hl : lv_has ls 7 [(6, .int (nI ((lvr T.2 V.2 (x + 1) y) + 1))), (0, .ref (g 0)), (1, .int (nI a)), (2, .int (nI b)), (3, .int (nI 25)), (4, .int (nI (x + 1))), (5, .int (nI (y + 1)))] := hl
                            exact t199 _ (by rw [show lvr T.2 V.2 (x + 1) (y + 1) = (lvr T.2 V.2 (x + 1) y) + 1 by rw [hss]; omega]; exact (lv_sub hl [1, 2, 3, 4, 5, 6, 0] rfl))
                      · rw [if_pos hc110] at hss
                        refine lv_iconst (pc := 113) (v := nI 0) hx hb d_M_distance_113 (by decide) ?_
                        refine lv_goto (pc := 114) (tgt := 118) hx hb d_M_distance_114 (by decide) ?_
                        refine lv_iadd (pc := 118) hx hb d_M_distance_118 ?_
                        refine g_top (y := nI ((lvr T.2 V.2 x y) + 0)) (nI_add _ _) ?_
                        refine lv_istore (pc := 119) hx hb d_M_distance_119 hl (by decide) rfl (fun ls hl => ?_)
                        have hl : lv_has ls 7 [(6, .int (nI ((lvr T.2 V.2 x y) + 0))), (0, .ref (g 0)), (1, .int (nI a)), (2, .int (nI b)), (3, .int (nI 25)), (4, .int (nI (x + 1))), (5, .int (nI (y + 1)))] := hl
                        refine lv_aload_n (pc := 121) hx hb d_M_distance_121 rfl (lv_at hl 1 rfl) ?_
                        refine mg_tb (pc := 122) hC hw d_M_distance_122 ?_
                        refine lv_iload_n (pc := 125) hx hb d_M_distance_125 rfl (lv_at hl 4 rfl) ?_
                        refine lv_iload (pc := 126) hx hb d_M_distance_126 (lv_at hl 5 rfl) ?_
                        refine lv_iconst (pc := 128) (v := nI 1) hx hb d_M_distance_128 (by decide) ?_
                        refine lv_isub (pc := 129) hx hb d_M_distance_129 ?_
                        refine g_top (y := nI x) (nI_pred x) ?_
                        refine lv_imul (pc := 130) hx hb d_M_distance_130 ?_
                        refine g_top (y := nI (25 * x)) (pk_mul _ _) ?_
                        refine lv_iload (pc := 131) hx hb d_M_distance_131 (lv_at hl 6 rfl) ?_
                        refine lv_iadd (pc := 133) hx hb d_M_distance_133 ?_
                        refine g_top (y := nI ((25 * x) + (y + 1))) (nI_add _ _) ?_
                        refine ml_tb (pc := 134) (i := (25 * x) + (y + 1)) (by omega) hC hw d_M_distance_134 ?_
                        refine g_top (y := nI (lvr T.2 V.2 x (y + 1))) (he1 x (y + 1) (by omega) (by omega)) ?_
                        refine lv_iconst (pc := 135) (v := nI 1) hx hb d_M_distance_135 (by decide) ?_
                        refine lv_iadd (pc := 136) hx hb d_M_distance_136 ?_
                        refine g_top (y := nI ((lvr T.2 V.2 x (y + 1)) + 1)) (nI_add _ _) ?_
                        refine lv_iload (pc := 137) hx hb d_M_distance_137 (lv_at hl 0 rfl) ?_
                        refine nc_ge (pc := 139) (tgt := 160) hx hb d_M_distance_139 (by decide) (by omega) (by omega) (fun hc139 => ?_) (fun hc139 => ?_)
                        · refine lv_aload_n (pc := 160) hx hb d_M_distance_160 rfl (lv_at hl 1 rfl) ?_
                          refine mg_tb (pc := 161) hC hw d_M_distance_161 ?_
                          refine lv_iload_n (pc := 164) hx hb d_M_distance_164 rfl (lv_at hl 4 rfl) ?_
                          refine lv_iload (pc := 165) hx hb d_M_distance_165 (lv_at hl 5 rfl) ?_
                          refine lv_imul (pc := 167) hx hb d_M_distance_167 ?_
                          refine g_top (y := nI (25 * (x + 1))) (pk_mul _ _) ?_
                          refine lv_iload (pc := 168) hx hb d_M_distance_168 (lv_at hl 6 rfl) ?_
                          refine lv_iadd (pc := 170) hx hb d_M_distance_170 ?_
                          refine g_top (y := nI ((25 * (x + 1)) + (y + 1))) (nI_add _ _) ?_
                          refine lv_iconst (pc := 171) (v := nI 1) hx hb d_M_distance_171 (by decide) ?_
                          refine lv_isub (pc := 172) hx hb d_M_distance_172 ?_
                          refine g_top (y := nI (25 * (x + 1) + y)) ((pk_sub (by omega)).trans (congrArg nI (by omega))) ?_
                          refine ml_tb (pc := 173) (i := 25 * (x + 1) + y) (by omega) hC hw d_M_distance_173 ?_
                          refine g_top (y := nI (lvr T.2 V.2 (x + 1) y)) (he2 y (by omega)) ?_
                          refine lv_iconst (pc := 174) (v := nI 1) hx hb d_M_distance_174 (by decide) ?_
                          refine lv_iadd (pc := 175) hx hb d_M_distance_175 ?_
                          refine g_top (y := nI ((lvr T.2 V.2 (x + 1) y) + 1)) (nI_add _ _) ?_
                          refine lv_iload (pc := 176) hx hb d_M_distance_176 (lv_at hl 0 rfl) ?_
                          refine nc_ge (pc := 178) (tgt := 199) hx hb d_M_distance_178 (by decide) (by omega) (by omega) (fun hc178 => ?_) (fun hc178 => ?_)
                          · exact t199 _ (by rw [show lvr T.2 V.2 (x + 1) (y + 1) = (lvr T.2 V.2 x y) + 0 by rw [hss]; omega]; exact (lv_sub hl [1, 2, 3, 4, 5, 6, 0] rfl))
                          · refine lv_aload_n (pc := 181) hx hb d_M_distance_181 rfl (lv_at hl 1 rfl) ?_
                            refine mg_tb (pc := 182) hC hw d_M_distance_182 ?_
                            refine lv_iload_n (pc := 185) hx hb d_M_distance_185 rfl (lv_at hl 4 rfl) ?_
                            refine lv_iload (pc := 186) hx hb d_M_distance_186 (lv_at hl 5 rfl) ?_
                            refine lv_imul (pc := 188) hx hb d_M_distance_188 ?_
                            refine g_top (y := nI (25 * (x + 1))) (pk_mul _ _) ?_
                            refine lv_iload (pc := 189) hx hb d_M_distance_189 (lv_at hl 6 rfl) ?_
                            refine lv_iadd (pc := 191) hx hb d_M_distance_191 ?_
                            refine g_top (y := nI ((25 * (x + 1)) + (y + 1))) (nI_add _ _) ?_
                            refine lv_iconst (pc := 192) (v := nI 1) hx hb d_M_distance_192 (by decide) ?_
                            refine lv_isub (pc := 193) hx hb d_M_distance_193 ?_
                            refine g_top (y := nI (25 * (x + 1) + y)) ((pk_sub (by omega)).trans (congrArg nI (by omega))) ?_
                            refine ml_tb (pc := 194) (i := 25 * (x + 1) + y) (by omega) hC hw d_M_distance_194 ?_
                            refine g_top (y := nI (lvr T.2 V.2 (x + 1) y)) (he2 y (by omega)) ?_
                            refine lv_iconst (pc := 195) (v := nI 1) hx hb d_M_distance_195 (by decide) ?_
                            refine lv_iadd (pc := 196) hx hb d_M_distance_196 ?_
                            refine g_top (y := nI ((lvr T.2 V.2 (x + 1) y) + 1)) (nI_add _ _) ?_
                            refine lv_istore (pc := 197) hx hb d_M_distance_197 hl (by decide) rfl (fun ls hl => ?_)
                            have hl : lv_has ls 7 [(6, .int (nI ((lvr T.2 V.2 (x + 1) y) + 1))), (0, .ref (g 0)), (1, .int (nI a)), (2, .int (nI b)), (3, .int (nI 25)), (4, .int (nI (x + 1))), (5, .int (nI (y + 1)))] := hl
                            exact t199 _ (by rw [show lvr T.2 V.2 (x + 1) (y + 1) = (lvr T.2 V.2 (x + 1) y) + 1 by rw [hss]; omega]; exact (lv_sub hl [1, 2, 3, 4, 5, 6, 0] rfl))
                        · refine lv_aload_n (pc := 142) hx hb d_M_distance_142 rfl (lv_at hl 1 rfl) ?_
                          refine mg_tb (pc := 143) hC hw d_M_distance_143 ?_
                          refine lv_iload_n (pc := 146) hx hb d_M_distance_146 rfl (lv_at hl 4 rfl) ?_
                          refine lv_iload (pc := 147) hx hb d_M_distance_147 (lv_at hl 5 rfl) ?_
                          refine lv_iconst (pc := 149) (v := nI 1) hx hb d_M_distance_149 (by decide) ?_
                          refine lv_isub (pc := 150) hx hb d_M_distance_150 ?_
                          refine g_top (y := nI x) (nI_pred x) ?_
                          refine lv_imul (pc := 151) hx hb d_M_distance_151 ?_
                          refine g_top (y := nI (25 * x)) (pk_mul _ _) ?_
                          refine lv_iload (pc := 152) hx hb d_M_distance_152 (lv_at hl 6 rfl) ?_
                          refine lv_iadd (pc := 154) hx hb d_M_distance_154 ?_
                          refine g_top (y := nI ((25 * x) + (y + 1))) (nI_add _ _) ?_
                          refine ml_tb (pc := 155) (i := (25 * x) + (y + 1)) (by omega) hC hw d_M_distance_155 ?_
                          refine g_top (y := nI (lvr T.2 V.2 x (y + 1))) (he1 x (y + 1) (by omega) (by omega)) ?_
                          refine lv_iconst (pc := 156) (v := nI 1) hx hb d_M_distance_156 (by decide) ?_
                          refine lv_iadd (pc := 157) hx hb d_M_distance_157 ?_
                          refine g_top (y := nI ((lvr T.2 V.2 x (y + 1)) + 1)) (nI_add _ _) ?_
                          refine lv_istore (pc := 158) hx hb d_M_distance_158 hl (by decide) rfl (fun ls hl => ?_)
                          have hl : lv_has ls 7 [(6, .int (nI ((lvr T.2 V.2 x (y + 1)) + 1))), (0, .ref (g 0)), (1, .int (nI a)), (2, .int (nI b)), (3, .int (nI 25)), (4, .int (nI (x + 1))), (5, .int (nI (y + 1)))] := hl
                          refine lv_aload_n (pc := 160) hx hb d_M_distance_160 rfl (lv_at hl 1 rfl) ?_
                          refine mg_tb (pc := 161) hC hw d_M_distance_161 ?_
                          refine lv_iload_n (pc := 164) hx hb d_M_distance_164 rfl (lv_at hl 4 rfl) ?_
                          refine lv_iload (pc := 165) hx hb d_M_distance_165 (lv_at hl 5 rfl) ?_
                          refine lv_imul (pc := 167) hx hb d_M_distance_167 ?_
                          refine g_top (y := nI (25 * (x + 1))) (pk_mul _ _) ?_
                          refine lv_iload (pc := 168) hx hb d_M_distance_168 (lv_at hl 6 rfl) ?_
                          refine lv_iadd (pc := 170) hx hb d_M_distance_170 ?_
                          refine g_top (y := nI ((25 * (x + 1)) + (y + 1))) (nI_add _ _) ?_
                          refine lv_iconst (pc := 171) (v := nI 1) hx hb d_M_distance_171 (by decide) ?_
                          refine lv_isub (pc := 172) hx hb d_M_distance_172 ?_
                          refine g_top (y := nI (25 * (x + 1) + y)) ((pk_sub (by omega)).trans (congrArg nI (by omega))) ?_
                          refine ml_tb (pc := 173) (i := 25 * (x + 1) + y) (by omega) hC hw d_M_distance_173 ?_
                          refine g_top (y := nI (lvr T.2 V.2 (x + 1) y)) (he2 y (by omega)) ?_
                          refine lv_iconst (pc := 174) (v := nI 1) hx hb d_M_distance_174 (by decide) ?_
                          refine lv_iadd (pc := 175) hx hb d_M_distance_175 ?_
                          refine g_top (y := nI ((lvr T.2 V.2 (x + 1) y) + 1)) (nI_add _ _) ?_
                          refine lv_iload (pc := 176) hx hb d_M_distance_176 (lv_at hl 0 rfl) ?_
                          refine nc_ge (pc := 178) (tgt := 199) hx hb d_M_distance_178 (by decide) (by omega) (by omega) (fun hc178 => ?_) (fun hc178 => ?_)
                          · exact t199 _ (by rw [show lvr T.2 V.2 (x + 1) (y + 1) = (lvr T.2 V.2 x (y + 1)) + 1 by rw [hss]; omega]; exact (lv_sub hl [1, 2, 3, 4, 5, 6, 0] rfl))
                          · refine lv_aload_n (pc := 181) hx hb d_M_distance_181 rfl (lv_at hl 1 rfl) ?_
                            refine mg_tb (pc := 182) hC hw d_M_distance_182 ?_
                            refine lv_iload_n (pc := 185) hx hb d_M_distance_185 rfl (lv_at hl 4 rfl) ?_
                            refine lv_iload (pc := 186) hx hb d_M_distance_186 (lv_at hl 5 rfl) ?_
                            refine lv_imul (pc := 188) hx hb d_M_distance_188 ?_
                            refine g_top (y := nI (25 * (x + 1))) (pk_mul _ _) ?_
                            refine lv_iload (pc := 189) hx hb d_M_distance_189 (lv_at hl 6 rfl) ?_
                            refine lv_iadd (pc := 191) hx hb d_M_distance_191 ?_
                            refine g_top (y := nI ((25 * (x + 1)) + (y + 1))) (nI_add _ _) ?_
                            refine lv_iconst (pc := 192) (v := nI 1) hx hb d_M_distance_192 (by decide) ?_
                            refine lv_isub (pc := 193) hx hb d_M_distance_193 ?_
                            refine g_top (y := nI (25 * (x + 1) + y)) ((pk_sub (by omega)).trans (congrArg nI (by omega))) ?_
                            refine ml_tb (pc := 194) (i := 25 * (x + 1) + y) (by omega) hC hw d_M_distance_194 ?_
                            refine g_top (y := nI (lvr T.2 V.2 (x + 1) y)) (he2 y (by omega)) ?_
                            refine lv_iconst (pc := 195) (v := nI 1) hx hb d_M_distance_195 (by decide) ?_
                            refine lv_iadd (pc := 196) hx hb d_M_distance_196 ?_
                            refine g_top (y := nI ((lvr T.2 V.2 (x + 1) y) + 1)) (nI_add _ _) ?_
                            refine lv_istore (pc := 197) hx hb d_M_distance_197 hl (by decide) rfl (fun ls hl => ?_)
                            have hl : lv_has ls 7 [(6, .int (nI ((lvr T.2 V.2 (x + 1) y) + 1))), (0, .ref (g 0)), (1, .int (nI a)), (2, .int (nI b)), (3, .int (nI 25)), (4, .int (nI (x + 1))), (5, .int (nI (y + 1)))] := hl
                            exact t199 _ (by rw [show lvr T.2 V.2 (x + 1) (y + 1) = (lvr T.2 V.2 (x + 1) y) + 1 by rw [hss]; omega]; exact (lv_sub hl [1, 2, 3, 4, 5, 6, 0] rfl))
                · have e0 : y = 0 := Nat.eq_zero_of_not_pos (fun q => nI_ne0 q (by omega) hc43)
                  subst e0
                  refine lv_iload (pc := 46) hx hb d_M_distance_46 (lv_at hl 4 rfl) ?_
                  refine lv_goto (pc := 48) (tgt := 54) hx hb d_M_distance_48 (by decide) ?_
                  refine lv_istore (pc := 54) hx hb d_M_distance_54 hl (by decide) rfl (fun ls hl => ?_)
                  have hl : lv_has ls 7 [(6, .int (nI (x + 1))), (0, .ref (g 0)), (1, .int (nI a)), (2, .int (nI b)), (3, .int (nI 25)), (4, .int (nI (x + 1))), (5, .int (nI 0))] := hl
                  refine lv_iload (pc := 56) hx hb d_M_distance_56 (lv_at hl 5 rfl) ?_
                  refine lv_if_le (pc := 58) (tgt := 199) hx hb d_M_distance_58 (by decide) (fun hc58 => ?_) (fun hc58 => ?_)
                  · exact absurd hc58 (nI_nle (by omega) (by omega))
                  · refine lv_iload (pc := 61) hx hb d_M_distance_61 (lv_at hl 6 rfl) ?_
                    refine lv_if_le (pc := 63) (tgt := 199) hx hb d_M_distance_63 (by decide) (fun hc63 => ?_) (fun hc63 => ?_)
                    · exact t199 _ (lv_sub hl [1, 2, 3, 4, 5, 6, 0] rfl)
                    · exact absurd (by decide) hc63
              · have e0 : x = 0 := Nat.eq_zero_of_not_pos (fun q => nI_ne0 q (by omega) hc33)
                subst e0
                refine lv_iload (pc := 36) hx hb d_M_distance_36 (lv_at hl 5 rfl) ?_
                refine lv_goto (pc := 38) (tgt := 54) hx hb d_M_distance_38 (by decide) ?_
                refine lv_istore (pc := 54) hx hb d_M_distance_54 hl (by decide) rfl (fun ls hl => ?_)
                have hl : lv_has ls 7 [(6, .int (nI y)), (0, .ref (g 0)), (1, .int (nI a)), (2, .int (nI b)), (3, .int (nI 25)), (4, .int (nI 0)), (5, .int (nI y))] := hl
                refine lv_iload (pc := 56) hx hb d_M_distance_56 (lv_at hl 5 rfl) ?_
                refine lv_if_le (pc := 58) (tgt := 199) hx hb d_M_distance_58 (by decide) (fun hc58 => ?_) (fun hc58 => ?_)
                · exact t199 _ (lv_sub hl [1, 2, 3, 4, 5, 6, 0] rfl)
                · exact absurd (by decide) hc58
        exact lp3 (V.1 + 2) 0 tb1 _ _ _ (by omega) (lv_sub hl [1, 2, 3, 4, 5, 0] rfl) hw (Nat.zero_le _) hd (fun q hq => absurd hq (Nat.not_lt_zero _))
  exact lp (T.1 + 2) 0 tb _ _ _ (by omega) (lv_sub hl [2, 3, 4, 1, 0] rfl) hw (Nat.zero_le _) (fun r q hr _ => absurd hr (Nat.not_lt_zero _))
set_option maxHeartbeats 4000000 in
set_option maxRecDepth 100000 in
theorem c_M_apart (l : Launch) (D : va_G) (g : Nat → Nat) (k : Nat → ClassId) (tp : Nat → Int32) (tm : Nat → Int32) (sz : Nat → Int32) (wd : Nat → Int32) (wl : Int32) (tb : Nat → Int32) (x : Int32) {n : Nat} {ts : List Tm} (ht : tok ts tm sz) (hlen : ts.length ≤ 150) (h : n ≤ 300) (hby : ∀ i, i < n → by_ok (tp i)) : gMi l y_M_apart (gW y_M_apart b_M_apart 2 (some .int)) (gR 3) D (mT k) (mw g k) [.ref (g 0), .int x] (tp, (nI n), tm, sz, (nI ts.length), wd, wl, tb) (fun r u => (hasT ts x = none ∧ r = -2 ∧ u = (tp, (nI n), tm, sz, (nI ts.length), wd, wl, tb)) ∨ ∃ T, hasT ts x = some T ∧ r = (if isW (fun i => sm (tp i)) n = true then nI (lev T (stm (fun i => sm (tp i)) n)) else -1) ∧ ∃ tm1 sz1 wd1 wl1 tb1, u = (tp, nI 0, tm1, sz1, nI ts.length, wd1, wl1, tb1) ∧ tok ts tm1 sz1) := by
  rcases hasT_cases ts x hlen with ⟨hT, hk⟩ | ⟨j, T, hj, rfl, hj2, hT⟩
  · refine g_starti (by decide) (Nat.le_of_ble_eq_true rfl) ?_
    intro p ev s m args below meth cd A Q ls hC hQ hl hw
    have hx := hC.1.1
    have hb := hC.1.2.1
    have hl : lv_has ls 2 [(0, .ref (g 0)), (1, .int x)] := hl
    refine lv_aload_n (pc := 0) hx hb d_M_apart_0 rfl (lv_at hl 0 rfl) ?_
    refine lv_iload_n (pc := 1) hx hb d_M_apart_1 rfl (lv_at hl 1 rfl) ?_
    refine g_calli (pc := 2) (as := [.int x]) (rest := []) hC hw (c_M_is_n l D g k tp _ tm sz _ wd wl tb hk) lm_M_is f_M_is rfl rfl rfl rfl ⟨by decide, by decide⟩ hl.1 (Nat.le_of_ble_eq_true rfl) d_M_apart_2 (fun r u1 H locs hp hw => ?_)
    obtain ⟨rfl, rfl⟩ := hp
    refine lv_if_ne (pc := 5) (tgt := 11) hx hb d_M_apart_5 (by decide) (fun hc5 => ?_) (fun hc5 => ?_)
    · exact absurd rfl hc5
    · refine lv_bipush (pc := 8) (v := (-2)) hx hb d_M_apart_8 (by decide) ?_
      exact hQ _ _ _ _ _ _ hw (rfl) (Or.inl ⟨hT, rfl, rfl⟩) d_M_apart_10
  · refine g_starti (by decide) (Nat.le_of_ble_eq_true rfl) ?_
    intro p ev s m args below meth cd A Q ls hC hQ hl hw
    have hx := hC.1.1
    have hb := hC.1.2.1
    have hl : lv_has ls 2 [(0, .ref (g 0)), (1, .int (nI j))] := hl
    refine lv_aload_n (pc := 0) hx hb d_M_apart_0 rfl (lv_at hl 0 rfl) ?_
    refine lv_iload_n (pc := 1) hx hb d_M_apart_1 rfl (lv_at hl 1 rfl) ?_
    refine g_calli (pc := 2) (as := [.int (nI j)]) (rest := []) hC hw (c_M_is_y l D g k tp _ tm sz wd wl tb hj hlen) lm_M_is f_M_is rfl rfl rfl rfl ⟨by decide, by decide⟩ hl.1 (Nat.le_of_ble_eq_true rfl) d_M_apart_2 (fun r u1 H locs hp hw => ?_)
    obtain ⟨rfl, rfl⟩ := hp
    refine lv_if_ne (pc := 5) (tgt := 11) hx hb d_M_apart_5 (by decide) (fun hc5 => ?_) (fun hc5 => ?_)
    · refine lv_aload_n (pc := 11) hx hb d_M_apart_11 rfl (lv_at hl 0 rfl) ?_
      refine g_calli (pc := 12) (as := []) (rest := []) hC hw (c_M_oneWord l D g k tp tm sz _ wd wl tb h hby) lm_M_oneWord f_M_oneWord rfl rfl rfl rfl ⟨by decide, by decide⟩ hl.1 (Nat.le_of_ble_eq_true rfl) d_M_apart_12 (fun r u1 H locs hp hw => ?_)
      rcases hp with ⟨hW, rfl, wd1, rfl, hwd⟩ | ⟨hW, rfl, wd1, wl1, rfl⟩
      · refine lv_if_ne (pc := 15) (tgt := 20) hx hb d_M_apart_15 (by decide) (fun hc15 => ?_) (fun hc15 => ?_)
        · refine lv_aload_n (pc := 20) hx hb d_M_apart_20 rfl (lv_at hl 0 rfl) ?_
          refine lv_sipush (pc := 21) (v := nI 150) hx hb d_M_apart_21 (by decide) ?_
          refine lv_iconst (pc := 24) (v := 1) hx hb d_M_apart_24 (by decide) ?_
          refine g_callv (pc := 25) (as := [.int (nI 150), .int 1]) (rest := []) hC hw (c_M_note_y l D g k tp _ tm sz _ wd1 tb (n := n) (j := 150) h (by omega) (fun i hi => by rw [hwd i hi]; exact by_sm (hby i hi))) lm_M_note f_M_note rfl rfl rfl rfl ⟨by decide, by decide⟩ hl.1 (Nat.le_of_ble_eq_true rfl) d_M_apart_25 (fun u1 H locs hp hw => ?_)
          obtain ⟨tm1, sz1, wd2, rfl, hwr⟩ := hp
          have hs := stm_ext (w := wd1) (v := (fun i => sm (tp i))) (n := n) hwd
          have hwr := wrt_ext hwr hs.1 hs.2
          refine lv_aload_n (pc := 28) hx hb d_M_apart_28 rfl (lv_at hl 0 rfl) ?_
          refine lv_iload_n (pc := 29) hx hb d_M_apart_29 rfl (lv_at hl 1 rfl) ?_
          refine lv_sipush (pc := 30) (v := nI 150) hx hb d_M_apart_30 (by decide) ?_
          refine g_calli (pc := 33) (as := [.int (nI j), .int (nI 150)]) (rest := []) hC hw (c_M_distance l D g k tp _ tm1 sz1 _ wd2 _ tb (a := j) (b := 150) (by omega) (by omega) (wrt_keep hwr (by omega) (ht j _ hj2)) (wrt_at hwr)) lm_M_distance f_M_distance rfl rfl rfl rfl ⟨by decide, by decide⟩ hl.1 (Nat.le_of_ble_eq_true rfl) d_M_apart_33 (fun r u1 H locs hp hw => ?_)
          obtain ⟨rfl, tb1, rfl⟩ := hp
          exact hQ _ _ _ _ _ _ hw (rfl) (Or.inr ⟨T, hT, by rw [if_pos hW], tm1, sz1, wd2, _, tb1, rfl, tok_keep ht hwr hlen⟩) d_M_apart_36
        · exact absurd hc15 (by decide)
      · refine lv_if_ne (pc := 15) (tgt := 20) hx hb d_M_apart_15 (by decide) (fun hc15 => ?_) (fun hc15 => ?_)
        · exact absurd rfl hc15
        · refine lv_iconst (pc := 18) (v := (-1)) hx hb d_M_apart_18 (by decide) ?_
          exact hQ _ _ _ _ _ _ hw (rfl) (Or.inr ⟨T, hT, by rw [if_neg (by rw [hW]; decide)], tm, sz, wd1, wl1, tb, rfl, ht⟩) d_M_apart_19
    · exact absurd hc5 (by decide)
set_option maxHeartbeats 4000000 in
set_option maxRecDepth 100000 in
theorem c_M_nearest (l : Launch) (D : va_G) (g : Nat → Nat) (k : Nat → ClassId) (tp : Nat → Int32) (tm : Nat → Int32) (sz : Nat → Int32) (wd : Nat → Int32) (wl : Int32) (tb : Nat → Int32) {n : Nat} {ts : List Tm} (ht : tok ts tm sz) (hlen : ts.length ≤ 150) (h : n ≤ 300) (hby : ∀ i, i < n → by_ok (tp i)) : gMi l y_M_nearest (gW y_M_nearest b_M_nearest 5 (some .int)) (gR 3) D (mT k) (mw g k) [.ref (g 0)] (tp, (nI n), tm, sz, (nI ts.length), wd, wl, tb) (fun r u => r = (if isW (fun i => sm (tp i)) n = true then (nbs ts (stm (fun i => sm (tp i)) n) 100 ts.length).1 else -1) ∧ ∃ tm1 sz1 wd1 wl1 tb1, u = (tp, nI 0, tm1, sz1, nI ts.length, wd1, wl1, tb1) ∧ tok ts tm1 sz1) := by
  refine g_starti (by decide) (Nat.le_of_ble_eq_true rfl) ?_
  intro p ev s m args below meth cd A Q ls hC hQ hl hw
  have hx := hC.1.1
  have hb := hC.1.2.1
  have hl : lv_has ls 5 [(0, .ref (g 0))] := hl
  refine lv_aload_n (pc := 0) hx hb d_M_nearest_0 rfl (lv_at hl 0 rfl) ?_
  refine g_calli (pc := 1) (as := []) (rest := []) hC hw (c_M_oneWord l D g k tp tm sz _ wd wl tb h hby) lm_M_oneWord f_M_oneWord rfl rfl rfl rfl ⟨by decide, by decide⟩ hl.1 (Nat.le_of_ble_eq_true rfl) d_M_nearest_1 (fun r u1 H locs hp hw => ?_)
  rcases hp with ⟨hW, rfl, wd1, rfl, hwd⟩ | ⟨hW, rfl, wd1, wl1, rfl⟩
  · refine lv_if_ne (pc := 4) (tgt := 9) hx hb d_M_nearest_4 (by decide) (fun hc4 => ?_) (fun hc4 => ?_)
    · refine lv_aload_n (pc := 9) hx hb d_M_nearest_9 rfl (lv_at hl 0 rfl) ?_
      refine lv_sipush (pc := 10) (v := nI 150) hx hb d_M_nearest_10 (by decide) ?_
      refine lv_iconst (pc := 13) (v := 1) hx hb d_M_nearest_13 (by decide) ?_
      refine g_callv (pc := 14) (as := [.int (nI 150), .int 1]) (rest := []) hC hw (c_M_note_y l D g k tp _ tm sz _ wd1 tb (n := n) (j := 150) h (by omega) (fun i hi => by rw [hwd i hi]; exact by_sm (hby i hi))) lm_M_note f_M_note rfl rfl rfl rfl ⟨by decide, by decide⟩ hl.1 (Nat.le_of_ble_eq_true rfl) d_M_nearest_14 (fun u1 H locs hp hw => ?_)
      obtain ⟨tm1, sz1, wd2, rfl, hwr⟩ := hp
      have hs := stm_ext (w := wd1) (v := (fun i => sm (tp i))) (n := n) hwd
      have hwr := wrt_ext hwr hs.1 hs.2
      have ht1 := tok_keep ht hwr hlen
      refine lv_bipush (pc := 17) (v := (-2)) hx hb d_M_nearest_17 (by decide) ?_
      refine lv_istore_n (pc := 19) hx hb d_M_nearest_19 rfl hl (by decide) rfl (fun ls hl => ?_)
      have hl : lv_has ls 5 [(1, .int ((-2))), (0, .ref (g 0))] := hl
      refine lv_bipush (pc := 20) (v := nI 100) hx hb d_M_nearest_20 (by decide) ?_
      refine lv_istore_n (pc := 22) hx hb d_M_nearest_22 rfl hl (by decide) rfl (fun ls hl => ?_)
      have hl : lv_has ls 5 [(2, .int (nI 100)), (1, .int ((-2))), (0, .ref (g 0))] := hl
      refine lv_iconst (pc := 23) (v := nI 0) hx hb d_M_nearest_23 (by decide) ?_
      refine lv_istore_n (pc := 24) hx hb d_M_nearest_24 rfl hl (by decide) rfl (fun ls hl => ?_)
      have hl : lv_has ls 5 [(3, .int (nI 0)), (2, .int (nI 100)), (1, .int ((-2))), (0, .ref (g 0))] := hl
      have lp : ∀ (fu : Nat) (a : Nat) (tb1 : Nat → Int32) (ls : Array Slot) (H : Heap) (locs : List Loc), ts.length - a < fu → lv_has ls 5 [(0, .ref (g 0)), (1, .int ((nbs ts (stm (fun i => sm (tp i)) n) 100 a).1)), (2, .int (nI ((nbs ts (stm (fun i => sm (tp i)) n) 100 a).2))), (3, .int (nI a))] → gH D (mw g k) A s.heap (tp, (nI 0), tm1, sz1, (nI ts.length), wd2, (nI n), tb1) H locs → (a ≤ ts.length) → W p l ev (gR 3) s m args below meth cd H locs 0 0 Q (F0 m 25 ls []) := by
        intro fu
        induction fu with
        | zero => intro a tb1 ls H locs hn hl hw ha; exact absurd hn (Nat.not_lt_zero _)
        | succ fu ih =>
          intro a tb1 ls H locs hn hl hw ha
          refine lv_iload_n (pc := 25) hx hb d_M_nearest_25 rfl (lv_at hl 3 rfl) ?_
          refine lv_aload_n (pc := 26) hx hb d_M_nearest_26 rfl (lv_at hl 0 rfl) ?_
          refine mg_ct (pc := 27) hC hw d_M_nearest_27 ?_
          refine nc_ge (pc := 30) (tgt := 63) hx hb d_M_nearest_30 (by decide) (by omega) (by omega) (fun hc30 => ?_) (fun hc30 => ?_)
          · have ei : a = ts.length := by omega
            subst ei
            refine lv_iload_n (pc := 63) hx hb d_M_nearest_63 rfl (lv_at hl 1 rfl) ?_
            exact hQ _ _ _ _ _ _ hw (rfl) (⟨by rw [if_pos hW], tm1, sz1, wd2, _, tb1, rfl, ht1⟩) d_M_nearest_64
          · have hT : ts[a]? = some ts[a] := List.getElem?_eq_getElem (by omega)
            have hb1 := nbs_le ts (stm (fun i => sm (tp i)) n) 100 a
            have hb2 : lev ts[a] (stm (fun i => sm (tp i)) n) ≤ 24 := lev_le (ht1 a _ hT).1 (stm_le _ _)
            refine lv_aload_n (pc := 33) hx hb d_M_nearest_33 rfl (lv_at hl 0 rfl) ?_
            refine lv_iload_n (pc := 34) hx hb d_M_nearest_34 rfl (lv_at hl 3 rfl) ?_
            refine lv_sipush (pc := 35) (v := nI 150) hx hb d_M_nearest_35 (by decide) ?_
            refine g_calli (pc := 38) (as := [.int (nI a), .int (nI 150)]) (rest := []) hC hw (c_M_distance l D g k tp _ tm1 sz1 _ wd2 _ tb1 (a := a) (b := 150) (by omega) (by omega) (ht1 a _ hT) (wrt_at hwr)) lm_M_distance f_M_distance rfl rfl rfl rfl ⟨by decide, by decide⟩ hl.1 (Nat.le_of_ble_eq_true rfl) d_M_nearest_38 (fun r u1 H locs hp hw => ?_)
            obtain ⟨rfl, tb2, rfl⟩ := hp
            refine lv_istore (pc := 41) hx hb d_M_nearest_41 hl (by decide) rfl (fun ls hl => ?_)
            have hl : lv_has ls 5 [(4, .int (nI (lev ts[a] (stm (fun i => sm (tp i)) n)))), (0, .ref (g 0)), (1, .int ((nbs ts (stm (fun i => sm (tp i)) n) 100 a).1)), (2, .int (nI ((nbs ts (stm (fun i => sm (tp i)) n) 100 a).2))), (3, .int (nI a))] := hl
            refine lv_iload (pc := 43) hx hb d_M_nearest_43 (lv_at hl 0 rfl) ?_
            refine lv_iload_n (pc := 45) hx hb d_M_nearest_45 rfl (lv_at hl 3 rfl) ?_
            refine nc_lt (pc := 46) (tgt := 52) hx hb d_M_nearest_46 (by decide) (by omega) (by omega) (fun hc46 => ?_) (fun hc46 => ?_)
            · refine lv_iload_n (pc := 52) hx hb d_M_nearest_52 rfl (lv_at hl 4 rfl) ?_
              refine lv_istore_n (pc := 53) hx hb d_M_nearest_53 rfl hl (by decide) rfl (fun ls hl => ?_)
              have hl : lv_has ls 5 [(1, .int (nI a)), (4, .int (nI (lev ts[a] (stm (fun i => sm (tp i)) n)))), (0, .ref (g 0)), (2, .int (nI ((nbs ts (stm (fun i => sm (tp i)) n) 100 a).2))), (3, .int (nI a))] := hl
              refine lv_iload (pc := 54) hx hb d_M_nearest_54 (lv_at hl 1 rfl) ?_
              refine lv_istore_n (pc := 56) hx hb d_M_nearest_56 rfl hl (by decide) rfl (fun ls hl => ?_)
              have hl : lv_has ls 5 [(2, .int (nI (lev ts[a] (stm (fun i => sm (tp i)) n)))), (1, .int (nI a)), (4, .int (nI (lev ts[a] (stm (fun i => sm (tp i)) n)))), (0, .ref (g 0)), (3, .int (nI a))] := hl
              refine lv_iinc (pc := 57) (k := 4) (v := nI (a + 1)) hx hb d_M_nearest_57 hl rfl (nI_i1 a) (by decide) rfl (fun ls hl => ?_)
              have hl : lv_has ls 5 [(3, .int (nI (a + 1))), (2, .int (nI (lev ts[a] (stm (fun i => sm (tp i)) n)))), (1, .int (nI a)), (4, .int (nI (lev ts[a] (stm (fun i => sm (tp i)) n)))), (0, .ref (g 0))] := hl
              refine lv_goto (pc := 60) (tgt := 25) hx hb d_M_nearest_60 (by decide) ?_
              exact ih (a + 1) tb2 _ _ _ (by omega) (by rw [nbs_y hT (by omega)]; exact (lv_sub hl [4, 2, 1, 0] rfl)) hw (by omega)
            · refine lv_goto (pc := 49) (tgt := 57) hx hb d_M_nearest_49 (by decide) ?_
              refine lv_iinc (pc := 57) (k := 4) (v := nI (a + 1)) hx hb d_M_nearest_57 hl rfl (nI_i1 a) (by decide) rfl (fun ls hl => ?_)
              have hl : lv_has ls 5 [(3, .int (nI (a + 1))), (4, .int (nI (lev ts[a] (stm (fun i => sm (tp i)) n)))), (0, .ref (g 0)), (1, .int ((nbs ts (stm (fun i => sm (tp i)) n) 100 a).1)), (2, .int (nI ((nbs ts (stm (fun i => sm (tp i)) n) 100 a).2)))] := hl
              refine lv_goto (pc := 60) (tgt := 25) hx hb d_M_nearest_60 (by decide) ?_
              exact ih (a + 1) tb2 _ _ _ (by omega) (by rw [nbs_n hT (by omega)]; exact (lv_sub hl [2, 3, 4, 0] rfl)) hw (by omega)
      exact lp (ts.length + 1) 0 tb _ _ _ (by omega) (lv_sub hl [3, 2, 1, 0] rfl) hw (Nat.zero_le _)
    · exact absurd hc4 (by decide)
  · refine lv_if_ne (pc := 4) (tgt := 9) hx hb d_M_nearest_4 (by decide) (fun hc4 => ?_) (fun hc4 => ?_)
    · exact absurd rfl hc4
    · refine lv_iconst (pc := 7) (v := (-1)) hx hb d_M_nearest_7 (by decide) ?_
      exact hQ _ _ _ _ _ _ hw (rfl) (⟨by rw [if_neg (by rw [hW]; decide)], tm, sz, wd1, wl1, tb, rfl, ht⟩) d_M_nearest_8
set_option maxHeartbeats 4000000 in
set_option maxRecDepth 100000 in
theorem c_M_plain (l : Launch) (D : va_G) (g : Nat → Nat) (k : Nat → ClassId) (tp : Nat → Int32) (tm : Nat → Int32) (sz : Nat → Int32) (wd : Nat → Int32) (wl : Int32) (tb : Nat → Int32) {n : Nat} {ts : List Tm} (ht : tok ts tm sz) (hlen : ts.length ≤ 150) (h : n ≤ 300) (hby : ∀ i, i < n → by_ok (tp i)) : gMi l y_M_plain (gW y_M_plain b_M_plain 1 (some .int)) (gR 3) D (mT k) (mw g k) [.ref (g 0)] (tp, (nI n), tm, sz, (nI ts.length), wd, wl, tb) (fun r u => (isW (fun i => sm (tp i)) n = true ∧ ts.length < 150 ∧ r = nI (ts.length + 1) ∧ ∃ tm1 sz1 wd1 wl1, u = (tp, nI 0, tm1, sz1, nI (ts.length + 1), wd1, wl1, tb) ∧ wrt tm sz tm1 sz1 ts.length (pln (fun i => sm (tp i)) n)) ∨ (¬ (isW (fun i => sm (tp i)) n = true ∧ ts.length < 150) ∧ r = -1 ∧ ∃ wd1 wl1, u = (tp, nI 0, tm, sz, nI ts.length, wd1, wl1, tb))) := by
  refine g_starti (by decide) (Nat.le_of_ble_eq_true rfl) ?_
  intro p ev s m args below meth cd A Q ls hC hQ hl hw
  have hx := hC.1.1
  have hb := hC.1.2.1
  have hl : lv_has ls 1 [(0, .ref (g 0))] := hl
  refine lv_aload_n (pc := 0) hx hb d_M_plain_0 rfl (lv_at hl 0 rfl) ?_
  refine g_calli (pc := 1) (as := []) (rest := []) hC hw (c_M_oneWord l D g k tp tm sz _ wd wl tb h hby) lm_M_oneWord f_M_oneWord rfl rfl rfl rfl ⟨by decide, by decide⟩ hl.1 (Nat.le_of_ble_eq_true rfl) d_M_plain_1 (fun r u1 H locs hp hw => ?_)
  rcases hp with ⟨hW, rfl, wd1, rfl, hwd⟩ | ⟨hW, rfl, wd1, wl1, rfl⟩
  · refine lv_if_eq (pc := 4) (tgt := 17) hx hb d_M_plain_4 (by decide) (fun hc4 => ?_) (fun hc4 => ?_)
    · exact absurd hc4 (by decide)
    · refine lv_aload_n (pc := 7) hx hb d_M_plain_7 rfl (lv_at hl 0 rfl) ?_
      refine mg_ct (pc := 8) hC hw d_M_plain_8 ?_
      refine lv_sipush (pc := 11) (v := nI 150) hx hb d_M_plain_11 (by decide) ?_
      refine nc_ne (pc := 14) (tgt := 19) hx hb d_M_plain_14 (by decide) (by omega) (by omega) (fun hc14 => ?_) (fun hc14 => ?_)
      · refine lv_aload_n (pc := 19) hx hb d_M_plain_19 rfl (lv_at hl 0 rfl) ?_
        refine lv_aload_n (pc := 20) hx hb d_M_plain_20 rfl (lv_at hl 0 rfl) ?_
        refine mg_ct (pc := 21) hC hw d_M_plain_21 ?_
        refine lv_iconst (pc := 24) (v := 0) hx hb d_M_plain_24 (by decide) ?_
        refine g_callv (pc := 25) (as := [.int (nI (ts.length)), .int 0]) (rest := []) hC hw (c_M_note_n l D g k tp _ tm sz _ wd1 tb (n := n) (j := ts.length) h (by omega) (fun i hi => by rw [hwd i hi]; exact by_sm (hby i hi))) lm_M_note f_M_note rfl rfl rfl rfl ⟨by decide, by decide⟩ hl.1 (Nat.le_of_ble_eq_true rfl) d_M_plain_25 (fun u1 H locs hp hw => ?_)
        obtain ⟨tm1, sz1, wd2, rfl, hwr⟩ := hp
        have hs := pln_ext (w := wd1) (v := (fun i => sm (tp i))) (n := n) hwd
        refine lv_aload_n (pc := 28) hx hb d_M_plain_28 rfl (lv_at hl 0 rfl) ?_
        refine lv_dup (pc := 29) hx hb d_M_plain_29 rfl ?_
        refine mg_ct (pc := 30) hC hw d_M_plain_30 ?_
        refine lv_iconst (pc := 33) (v := nI 1) hx hb d_M_plain_33 (by decide) ?_
        refine lv_iadd (pc := 34) hx hb d_M_plain_34 ?_
        refine g_top (y := nI (ts.length + 1)) (nI_add _ _) ?_
        refine mp_ct (pc := 35) hC hw d_M_plain_35 (fun H locs hw => ?_)
        have hw : gH D (mw g k) A _ (tp, (nI 0), tm1, sz1, (nI (ts.length + 1)), wd2, (nI n), tb) H locs := hw
        refine lv_aload_n (pc := 38) hx hb d_M_plain_38 rfl (lv_at hl 0 rfl) ?_
        refine mg_ct (pc := 39) hC hw d_M_plain_39 ?_
        exact hQ _ _ _ _ _ _ hw (rfl) (Or.inl ⟨hW, by omega, rfl, tm1, sz1, wd2, _, rfl, wrt_ext hwr hs.1 hs.2⟩) d_M_plain_42
      · refine lv_iconst (pc := 17) (v := (-1)) hx hb d_M_plain_17 (by decide) ?_
        exact hQ _ _ _ _ _ _ hw (rfl) (Or.inr ⟨fun q => absurd q.2 (by omega), rfl, wd1, _, rfl⟩) d_M_plain_18
  · refine lv_if_eq (pc := 4) (tgt := 17) hx hb d_M_plain_4 (by decide) (fun hc4 => ?_) (fun hc4 => ?_)
    · refine lv_iconst (pc := 17) (v := (-1)) hx hb d_M_plain_17 (by decide) ?_
      exact hQ _ _ _ _ _ _ hw (rfl) (Or.inr ⟨fun q => absurd q.1 (by rw [hW]; decide), rfl, wd1, wl1, rfl⟩) d_M_plain_18
    · exact absurd rfl hc4
