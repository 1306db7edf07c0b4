set_option maxHeartbeats 4000000 in
set_option maxRecDepth 100000 in
theorem c_M_run (l : Launch) (D : va_G) (g : Nat → Nat) (k : Nat → ClassId) (tp : Nat → Int32) (tm : Nat → Int32) (sz : Nat → Int32) (ct : Int32) (wd : Nat → Int32) (wl : Int32) (tb : Nat → Int32) {n a : Nat} (h : n ≤ 300) (ha : a ≤ n) (hby : ∀ i, i < n → by_ok (tp i)) : gMi l y_M_run (gW y_M_run b_M_run 3 (some .int)) (gR 1) D (mT k) (mw g k) [.ref (g 0), .int (nI a)] (tp, (nI n), tm, sz, ct, wd, wl, tb) (fun r u => ∃ (b : Nat) (wd1 : Nat → Int32), a ≤ b ∧ b ≤ n ∧ (∀ i, a ≤ i → i < b → ltr (tp i) = true) ∧ (b = n ∨ ¬ ltr (tp b) = true) ∧ r = nI b ∧ u = (tp, nI n, tm, sz, ct, wd1, nI (b - a), tb) ∧ ∀ i, i < b - a → wd1 i = sm (tp (a + i))) := by
  refine g_starti (by decide) (Nat.le_of_ble_eq_true rfl) ?_
  intro p ev s m args below meth cd A Q ls hC hQ hl hw
  have hx := hC.1.1
  have hb := hC.1.2.1
  have hl : lv_has ls 3 [(0, .ref (g 0)), (1, .int (nI a))] := hl
  refine lv_iload_n (pc := 0) hx hb d_M_run_0 rfl (lv_at hl 1 rfl) ?_
  refine lv_istore_n (pc := 1) hx hb d_M_run_1 rfl hl (by decide) rfl (fun ls hl => ?_)
  have hl : lv_has ls 3 [(2, .int (nI a)), (0, .ref (g 0)), (1, .int (nI a))] := hl
  refine lv_aload_n (pc := 2) hx hb d_M_run_2 rfl (lv_at hl 1 rfl) ?_
  refine lv_iconst (pc := 3) (v := nI 0) hx hb d_M_run_3 (by decide) ?_
  refine mp_wl (pc := 4) hC hw d_M_run_4 (fun H locs hw => ?_)
  have hw : gH D (mw g k) A _ (tp, (nI n), tm, sz, ct, wd, (nI 0), tb) H locs := hw
  have lp : ∀ (fu : Nat) (b : Nat) (wd1 : Nat → Int32) (ls : Array Slot) (H : Heap) (locs : List Loc), n - b < fu → lv_has ls 3 [(0, .ref (g 0)), (1, .int (nI a)), (2, .int (nI b))] → gH D (mw g k) A s.heap (tp, (nI n), tm, sz, ct, wd1, (nI (b - a)), tb) H locs → (a ≤ b) → (b ≤ n) → (∀ i, a ≤ i → i < b → ltr (tp i) = true) → (∀ i, i < b - a → wd1 i = sm (tp (a + i))) → W p l ev (gR 1) s m args below meth cd H locs 0 0 Q (F0 m 7 ls []) := by
    intro fu
    induction fu with
    | zero => intro b wd1 ls H locs hn hl hw h1 h2 h3 h4; exact absurd hn (Nat.not_lt_zero _)
    | succ fu ih =>
      intro b wd1 ls H locs hn hl hw h1 h2 h3 h4
      refine lv_iload_n (pc := 7) hx hb d_M_run_7 rfl (lv_at hl 2 rfl) ?_
      refine lv_aload_n (pc := 8) hx hb d_M_run_8 rfl (lv_at hl 0 rfl) ?_
      refine mg_tl (pc := 9) hC hw d_M_run_9 ?_
      refine nc_ge (pc := 12) (tgt := 93) hx hb d_M_run_12 (by decide) (by omega) (by omega) (fun hc12 => ?_) (fun hc12 => ?_)
      · refine lv_iload_n (pc := 93) hx hb d_M_run_93 rfl (lv_at hl 2 rfl) ?_
        exact hQ _ _ _ _ _ _ hw (rfl) (⟨b, wd1, h1, h2, h3, Or.inl (by omega), rfl, rfl, h4⟩) d_M_run_94
      · refine lv_aload_n (pc := 15) hx hb d_M_run_15 rfl (lv_at hl 0 rfl) ?_
        refine mg_tp (pc := 16) hC hw d_M_run_16 ?_
        refine lv_iload_n (pc := 19) hx hb d_M_run_19 rfl (lv_at hl 2 rfl) ?_
        refine ml_tp (pc := 20) (i := b) (by omega) hC hw d_M_run_20 ?_
        refine g_calls (pc := 21) (as := [.int (tp b)]) (rest := []) hC hw (c_M_letter l D (tp b)) lm_M_letter f_M_letter rfl rfl ⟨by decide, by decide⟩ hl.1 (Nat.le_of_ble_eq_true rfl) d_M_run_21 (fun H locs hw => ?_)
        refine lv_if_eq (pc := 24) (tgt := 93) hx hb d_M_run_24 (by decide) (fun hc24 => ?_) (fun hc24 => ?_)
        · refine lv_iload_n (pc := 93) hx hb d_M_run_93 rfl (lv_at hl 2 rfl) ?_
          exact hQ _ _ _ _ _ _ hw (rfl) (⟨b, wd1, h1, h2, h3, Or.inr (by rw [bI_0 hc24]; decide), rfl, rfl, h4⟩) d_M_run_94
        · have hl1 : ltr (tp b) = true := bI_1 hc24
          have hb2 : by_ok (tp b) := hby b (by omega)
          refine lv_aload_n (pc := 27) hx hb d_M_run_27 rfl (lv_at hl 0 rfl) ?_
          refine mg_wd (pc := 28) hC hw d_M_run_28 ?_
          refine lv_aload_n (pc := 31) hx hb d_M_run_31 rfl (lv_at hl 0 rfl) ?_
          refine mg_wl (pc := 32) hC hw d_M_run_32 ?_
          refine lv_aload_n (pc := 35) hx hb d_M_run_35 rfl (lv_at hl 0 rfl) ?_
          refine mg_tp (pc := 36) hC hw d_M_run_36 ?_
          refine lv_iload_n (pc := 39) hx hb d_M_run_39 rfl (lv_at hl 2 rfl) ?_
          refine ml_tp (pc := 40) (i := b) (by omega) hC hw d_M_run_40 ?_
          refine lv_bipush (pc := 41) (v := 65) hx hb d_M_run_41 (by decide) ?_
          refine lv_icmp_lt (pc := 43) (tgt := 69) hx hb d_M_run_43 (by decide) (fun hc43 => ?_) (fun hc43 => ?_)
          · refine lv_aload_n (pc := 69) hx hb d_M_run_69 rfl (lv_at hl 0 rfl) ?_
            refine mg_tp (pc := 70) hC hw d_M_run_70 ?_
            refine lv_iload_n (pc := 73) hx hb d_M_run_73 rfl (lv_at hl 2 rfl) ?_
            refine ml_tp (pc := 74) (i := b) (by omega) hC hw d_M_run_74 ?_
            refine lv_i2b (pc := 75) hx hb d_M_run_75 rfl ?_
            refine g_top (y := sm (tp b)) (Eq.trans hb2 (sm_no (fun q => nl hc43 q.1)).symm) ?_
            refine ms_wd (pc := 76) (i := b - a) (x := sm (tp b)) (by omega) (by_sm hb2) hC hw d_M_run_76 (fun H locs hw => ?_)
            refine lv_aload_n (pc := 77) hx hb d_M_run_77 rfl (lv_at hl 0 rfl) ?_
            refine lv_dup (pc := 78) hx hb d_M_run_78 rfl ?_
            refine mg_wl (pc := 79) hC hw d_M_run_79 ?_
            refine lv_iconst (pc := 82) (v := nI 1) hx hb d_M_run_82 (by decide) ?_
            refine lv_iadd (pc := 83) hx hb d_M_run_83 ?_
            refine g_top (y := nI (b + 1 - a)) ((nI_add _ _).trans (congrArg nI (by omega))) ?_
            refine mp_wl (pc := 84) hC hw d_M_run_84 (fun H locs hw => ?_)
            have hw : gH D (mw g k) A _ (tp, (nI n), tm, sz, ct, (upd wd1 (b - a) (sm (tp b))), (nI (b + 1 - a)), tb) H locs := hw
            refine lv_iinc (pc := 87) (k := 2) (v := nI (b + 1)) hx hb d_M_run_87 hl rfl (nI_i1 b) (by decide) rfl (fun ls hl => ?_)
            have hl : lv_has ls 3 [(2, .int (nI (b + 1))), (0, .ref (g 0)), (1, .int (nI a))] := hl
            refine lv_goto (pc := 90) (tgt := 7) hx hb d_M_run_90 (by decide) ?_
            refine ih (b + 1) _ _ _ _ (by omega) (lv_sub hl [1, 2, 0] rfl) hw (by omega) (by omega) (fun i q1 q2 => ?_) (fun i q => ?_)
            · by_cases e : i = b
              · rw [e]; exact hl1
              · exact h3 i q1 (by omega)
            · by_cases e : i = b - a
              · rw [e, pk_us, show a + (b - a) = b by omega]
              · rw [pk_un e]; exact h4 i (by omega)
          · refine lv_aload_n (pc := 46) hx hb d_M_run_46 rfl (lv_at hl 0 rfl) ?_
            refine mg_tp (pc := 47) hC hw d_M_run_47 ?_
            refine lv_iload_n (pc := 50) hx hb d_M_run_50 rfl (lv_at hl 2 rfl) ?_
            refine ml_tp (pc := 51) (i := b) (by omega) hC hw d_M_run_51 ?_
            refine lv_bipush (pc := 52) (v := 90) hx hb d_M_run_52 (by decide) ?_
            refine lv_icmp_gt (pc := 54) (tgt := 69) hx hb d_M_run_54 (by decide) (fun hc54 => ?_) (fun hc54 => ?_)
            · refine lv_aload_n (pc := 69) hx hb d_M_run_69 rfl (lv_at hl 0 rfl) ?_
              refine mg_tp (pc := 70) hC hw d_M_run_70 ?_
              refine lv_iload_n (pc := 73) hx hb d_M_run_73 rfl (lv_at hl 2 rfl) ?_
              refine ml_tp (pc := 74) (i := b) (by omega) hC hw d_M_run_74 ?_
              refine lv_i2b (pc := 75) hx hb d_M_run_75 rfl ?_
              refine g_top (y := sm (tp b)) (Eq.trans hb2 (sm_no (fun q => nl hc54 q.2)).symm) ?_
              refine ms_wd (pc := 76) (i := b - a) (x := sm (tp b)) (by omega) (by_sm hb2) hC hw d_M_run_76 (fun H locs hw => ?_)
              refine lv_aload_n (pc := 77) hx hb d_M_run_77 rfl (lv_at hl 0 rfl) ?_
              refine lv_dup (pc := 78) hx hb d_M_run_78 rfl ?_
              refine mg_wl (pc := 79) hC hw d_M_run_79 ?_
              refine lv_iconst (pc := 82) (v := nI 1) hx hb d_M_run_82 (by decide) ?_
              refine lv_iadd (pc := 83) hx hb d_M_run_83 ?_
              refine g_top (y := nI (b + 1 - a)) ((nI_add _ _).trans (congrArg nI (by omega))) ?_
              refine mp_wl (pc := 84) hC hw d_M_run_84 (fun H locs hw => ?_)
              have hw : gH D (mw g k) A _ (tp, (nI n), tm, sz, ct, (upd wd1 (b - a) (sm (tp b))), (nI (b + 1 - a)), tb) H locs := hw
              refine lv_iinc (pc := 87) (k := 2) (v := nI (b + 1)) hx hb d_M_run_87 hl rfl (nI_i1 b) (by decide) rfl (fun ls hl => ?_)
              have hl : lv_has ls 3 [(2, .int (nI (b + 1))), (0, .ref (g 0)), (1, .int (nI a))] := hl
              refine lv_goto (pc := 90) (tgt := 7) hx hb d_M_run_90 (by decide) ?_
              refine ih (b + 1) _ _ _ _ (by omega) (lv_sub hl [1, 2, 0] rfl) hw (by omega) (by omega) (fun i q1 q2 => ?_) (fun i q => ?_)
              · by_cases e : i = b
                · rw [e]; exact hl1
                · exact h3 i q1 (by omega)
              · by_cases e : i = b - a
                · rw [e, pk_us, show a + (b - a) = b by omega]
                · rw [pk_un e]; exact h4 i (by omega)
            · refine lv_aload_n (pc := 57) hx hb d_M_run_57 rfl (lv_at hl 0 rfl) ?_
              refine mg_tp (pc := 58) hC hw d_M_run_58 ?_
              refine lv_iload_n (pc := 61) hx hb d_M_run_61 rfl (lv_at hl 2 rfl) ?_
              refine ml_tp (pc := 62) (i := b) (by omega) hC hw d_M_run_62 ?_
              refine lv_bipush (pc := 63) (v := 32) hx hb d_M_run_63 (by decide) ?_
              refine lv_iadd (pc := 65) hx hb d_M_run_65 ?_
              refine lv_goto (pc := 66) (tgt := 75) hx hb d_M_run_66 (by decide) ?_
              refine lv_i2b (pc := 75) hx hb d_M_run_75 rfl ?_
              refine g_top (y := sm (tp b)) (sm_up2 hb2 (Int32.not_lt.mp hc43) (Int32.not_lt.mp hc54)) ?_
              refine ms_wd (pc := 76) (i := b - a) (x := sm (tp b)) (by omega) (by_sm hb2) hC hw d_M_run_76 (fun H locs hw => ?_)
              refine lv_aload_n (pc := 77) hx hb d_M_run_77 rfl (lv_at hl 0 rfl) ?_
              refine lv_dup (pc := 78) hx hb d_M_run_78 rfl ?_
              refine mg_wl (pc := 79) hC hw d_M_run_79 ?_
              refine lv_iconst (pc := 82) (v := nI 1) hx hb d_M_run_82 (by decide) ?_
              refine lv_iadd (pc := 83) hx hb d_M_run_83 ?_
              refine g_top (y := nI (b + 1 - a)) ((nI_add _ _).trans (congrArg nI (by omega))) ?_
              refine mp_wl (pc := 84) hC hw d_M_run_84 (fun H locs hw => ?_)
              have hw : gH D (mw g k) A _ (tp, (nI n), tm, sz, ct, (upd wd1 (b - a) (sm (tp b))), (nI (b + 1 - a)), tb) H locs := hw
              refine lv_iinc (pc := 87) (k := 2) (v := nI (b + 1)) hx hb d_M_run_87 hl rfl (nI_i1 b) (by decide) rfl (fun ls hl => ?_)
              have hl : lv_has ls 3 [(2, .int (nI (b + 1))), (0, .ref (g 0)), (1, .int (nI a))] := hl
              refine lv_goto (pc := 90) (tgt := 7) hx hb d_M_run_90 (by decide) ?_
              refine ih (b + 1) _ _ _ _ (by omega) (lv_sub hl [1, 2, 0] rfl) hw (by omega) (by omega) (fun i q1 q2 => ?_) (fun i q => ?_)
              · by_cases e : i = b
                · rw [e]; exact hl1
                · exact h3 i q1 (by omega)
              · by_cases e : i = b - a
                · rw [e, pk_us, show a + (b - a) = b by omega]
                · rw [pk_un e]; exact h4 i (by omega)
  exact lp (n + 1) a wd _ _ _ (by omega) (lv_sub hl [1, 2, 0] rfl) (by rw [Nat.sub_self]; exact hw) (Nat.le_refl _) ha (fun i q1 q2 => absurd q1 (by omega)) (fun i q => absurd q (by omega))
set_option maxHeartbeats 4000000 in
set_option maxRecDepth 100000 in
theorem c_M_last (l : Launch) (D : va_G) (g : Nat → Nat) (k : Nat → ClassId) (tp : Nat → Int32) (tl : Int32) (tm : Nat → Int32) (sz : Nat → Int32) (ct : Int32) (wd : Nat → Int32) (tb : Nat → Int32) {n q : Nat} (h : n ≤ 300) (hq : q ≤ n) (hq0 : 0 < q) : gMi l y_M_last (gW y_M_last b_M_last 2 (some .int)) (gR 0) D (mT k) (mw g k) [.ref (g 0), .int (nI q)] (tp, tl, tm, sz, ct, wd, (nI n), tb) (fun r u => r = wd (n - q) ∧ u = (tp, tl, tm, sz, ct, wd, nI n, tb)) := by
  refine g_starti (by decide) (Nat.le_of_ble_eq_true rfl) ?_
  intro p ev s m args below meth cd A Q ls hC hQ hl hw
  have hx := hC.1.1
  have hb := hC.1.2.1
  have hl : lv_has ls 2 [(0, .ref (g 0)), (1, .int (nI q))] := hl
  refine lv_aload_n (pc := 0) hx hb d_M_last_0 rfl (lv_at hl 0 rfl) ?_
  refine mg_wl (pc := 1) hC hw d_M_last_1 ?_
  refine lv_iload_n (pc := 4) hx hb d_M_last_4 rfl (lv_at hl 1 rfl) ?_
  refine nc_lt (pc := 5) (tgt := 22) hx hb d_M_last_5 (by decide) (by omega) (by omega) (fun hc5 => ?_) (fun hc5 => ?_)
  · omega
  · refine lv_aload_n (pc := 8) hx hb d_M_last_8 rfl (lv_at hl 0 rfl) ?_
    refine mg_wd (pc := 9) hC hw d_M_last_9 ?_
    refine lv_aload_n (pc := 12) hx hb d_M_last_12 rfl (lv_at hl 0 rfl) ?_
    refine mg_wl (pc := 13) hC hw d_M_last_13 ?_
    refine lv_iload_n (pc := 16) hx hb d_M_last_16 rfl (lv_at hl 1 rfl) ?_
    refine lv_isub (pc := 17) hx hb d_M_last_17 ?_
    refine g_top (y := nI (n - q)) (pk_sub (by omega)) ?_
    refine ml_wd (pc := 18) (i := n - q) (by omega) hC hw d_M_last_18 ?_
    refine lv_goto (pc := 19) (tgt := 23) hx hb d_M_last_19 (by decide) ?_
    exact hQ _ _ _ _ _ _ hw (rfl) (⟨rfl, rfl⟩) d_M_last_23
set_option maxHeartbeats 4000000 in
set_option maxRecDepth 100000 in
theorem c_M_note_y (l : Launch) (D : va_G) (g : Nat → Nat) (k : Nat → ClassId) (tp : Nat → Int32) (tl : Int32) (tm : Nat → Int32) (sz : Nat → Int32) (ct : Int32) (wd : Nat → Int32) (tb : Nat → Int32) {n j : Nat} (h : n ≤ 300) (hj : j < 151) (hby : ∀ i, i < n → by_ok (wd i)) : gMv l y_M_note (gW y_M_note b_M_note 5 none) (gR 1) D (mT k) (mw g k) [.ref (g 0), .int (nI j), .int 1] (tp, tl, tm, sz, ct, wd, (nI n), tb) (fun u => ∃ tm1 sz1 wd1, u = (tp, tl, tm1, sz1, ct, wd1, nI n, tb) ∧ wrt tm sz tm1 sz1 j (stm wd n)) := by
  refine g_startv (by decide) (Nat.le_of_ble_eq_true rfl) ?_
  intro p ev s m args below meth cd A Q ls hC hQ hl hw
  have hx := hC.1.1
  have hb := hC.1.2.1
  have hl : lv_has ls 5 [(0, .ref (g 0)), (1, .int (nI j)), (2, .int 1)] := hl
  have lp : ∀ (fu : Nat) (q : Nat) (wd1 : Nat → Int32) (x : Nat) (tm1 : Nat → Int32) (ls : Array Slot) (H : Heap) (locs : List Loc), min q 24 - x < fu → lv_has ls 5 [(0, .ref (g 0)), (1, .int (nI j)), (3, .int (nI (min q 24))), (4, .int (nI x))] → gH D (mw g k) A s.heap (tp, tl, tm1, sz, ct, wd1, (nI n), tb) H locs → (q ≤ 300) → (∀ i, i < q → by_ok (wd1 i)) → (∀ tm2 sz2, wrt tm sz tm2 sz2 j (pln wd1 q) → wrt tm sz tm2 sz2 j (stm wd n)) → (x ≤ min q 24) → (∀ i, i < x → tm1 (24 * j + i) = wd1 i) → (∀ y, (y < 24 * j ∨ 24 * j + 24 ≤ y) → tm1 y = tm y) → W p l ev (gR 1) s m args below meth cd H locs 0 0 Q (F0 m 114 ls []) := by
    intro fu
    induction fu with
    | zero => intro q wd1 x tm1 ls H locs hn hl hw hq hqb hres h1 h2 h3; exact absurd hn (Nat.not_lt_zero _)
    | succ fu ih =>
      intro q wd1 x tm1 ls H locs hn hl hw hq hqb hres h1 h2 h3
      refine lv_iload (pc := 114) hx hb d_M_note_114 (lv_at hl 3 rfl) ?_
      refine lv_iload_n (pc := 116) hx hb d_M_note_116 rfl (lv_at hl 2 rfl) ?_
      refine nc_ge (pc := 117) (tgt := 145) hx hb d_M_note_117 (by decide) (by omega) (by omega) (fun hc117 => ?_) (fun hc117 => ?_)
      · have ex : x = min q 24 := by omega
        subst ex
        refine lv_aload_n (pc := 145) hx hb d_M_note_145 rfl (lv_at hl 0 rfl) ?_
        refine mg_sz (pc := 146) hC hw d_M_note_146 ?_
        refine lv_iload_n (pc := 149) hx hb d_M_note_149 rfl (lv_at hl 1 rfl) ?_
        refine lv_iload_n (pc := 150) hx hb d_M_note_150 rfl (lv_at hl 2 rfl) ?_
        refine ms_sz (pc := 151) (i := j) (x := nI (min q 24)) (by omega) hC hw d_M_note_151 (fun H locs hw => ?_)
        exact hQ _ _ _ _ _ hw (⟨tm1, _, wd1, rfl, hres _ _ ⟨Nat.min_le_right _ _, rfl, h2, h3⟩⟩) d_M_note_152
      · refine lv_aload_n (pc := 120) hx hb d_M_note_120 rfl (lv_at hl 0 rfl) ?_
        refine mg_tm (pc := 121) hC hw d_M_note_121 ?_
        refine lv_bipush (pc := 124) (v := nI 24) hx hb d_M_note_124 (by decide) ?_
        refine lv_iload_n (pc := 126) hx hb d_M_note_126 rfl (lv_at hl 1 rfl) ?_
        refine lv_imul (pc := 127) hx hb d_M_note_127 ?_
        refine g_top (y := nI (24 * j)) (pk_mul _ _) ?_
        refine lv_iload (pc := 128) hx hb d_M_note_128 (lv_at hl 3 rfl) ?_
        refine lv_iadd (pc := 130) hx hb d_M_note_130 ?_
        refine g_top (y := nI ((24 * j) + x)) (nI_add _ _) ?_
        refine lv_aload_n (pc := 131) hx hb d_M_note_131 rfl (lv_at hl 0 rfl) ?_
        refine mg_wd (pc := 132) hC hw d_M_note_132 ?_
        refine lv_iload (pc := 135) hx hb d_M_note_135 (lv_at hl 3 rfl) ?_
        refine ml_wd (pc := 137) (i := x) (by omega) hC hw d_M_note_137 ?_
        refine ms_tm (pc := 138) (i := (24 * j) + x) (x := wd1 x) (by omega) (hqb x (by omega)) hC hw d_M_note_138 (fun H locs hw => ?_)
        refine lv_iinc (pc := 139) (k := 3) (v := nI (x + 1)) hx hb d_M_note_139 hl rfl (nI_i1 x) (by decide) rfl (fun ls hl => ?_)
        have hl : lv_has ls 5 [(4, .int (nI (x + 1))), (0, .ref (g 0)), (1, .int (nI j)), (3, .int (nI (min q 24)))] := hl
        refine lv_goto (pc := 142) (tgt := 114) hx hb d_M_note_142 (by decide) ?_
        refine ih q wd1 (x + 1) _ _ _ _ (by omega) (lv_sub hl [1, 2, 3, 0] rfl) hw hq hqb hres (by omega) (fun i qi => ?_) (fun y hy => ?_)
        · by_cases ei : i = x
          · rw [ei, pk_us]
          · rw [pk_un (by omega)]; exact h2 i (by omega)
        · rw [pk_un (by omega)]; exact h3 y hy
  have tail : ∀ (q : Nat) (wd1 : Nat → Int32) (ls : Array Slot) (H : Heap) (locs : List Loc), lv_has ls 5 [(0, .ref (g 0)), (1, .int (nI j)), (3, .int (nI q))] → gH D (mw g k) A s.heap (tp, tl, tm, sz, ct, wd1, (nI n), tb) H locs → q ≤ 300 → (∀ i, i < q → by_ok (wd1 i)) → (∀ tm2 sz2, wrt tm sz tm2 sz2 j (pln wd1 q) → wrt tm sz tm2 sz2 j (stm wd n)) → W p l ev (gR 1) s m args below meth cd H locs 0 0 Q (F0 m 102 ls []) := by
    intro q wd1 ls H locs hl hw hq hqb hres
    refine lv_iload_n (pc := 102) hx hb d_M_note_102 rfl (lv_at hl 2 rfl) ?_
    refine lv_bipush (pc := 103) (v := nI 24) hx hb d_M_note_103 (by decide) ?_
    refine nc_le (pc := 105) (tgt := 111) hx hb d_M_note_105 (by decide) (by omega) (by omega) (fun hc105 => ?_) (fun hc105 => ?_)
    · refine lv_iconst (pc := 111) (v := nI 0) hx hb d_M_note_111 (by decide) ?_
      refine lv_istore (pc := 112) hx hb d_M_note_112 hl (by decide) rfl (fun ls hl => ?_)
      have hl : lv_has ls 5 [(4, .int (nI 0)), (0, .ref (g 0)), (1, .int (nI j)), (3, .int (nI q))] := hl
      exact lp (min q 24 + 1) q wd1 0 tm _ _ _ (by omega) (by rw [show min q 24 = q by omega]; exact (lv_sub hl [1, 2, 3, 0] rfl)) hw hq hqb hres (Nat.zero_le _) (fun i qi => absurd qi (Nat.not_lt_zero _)) (fun y _ => rfl)
    · refine lv_bipush (pc := 108) (v := nI 24) hx hb d_M_note_108 (by decide) ?_
      refine lv_istore_n (pc := 110) hx hb d_M_note_110 rfl hl (by decide) rfl (fun ls hl => ?_)
      have hl : lv_has ls 5 [(3, .int (nI 24)), (0, .ref (g 0)), (1, .int (nI j))] := hl
      refine lv_iconst (pc := 111) (v := nI 0) hx hb d_M_note_111 (by decide) ?_
      refine lv_istore (pc := 112) hx hb d_M_note_112 hl (by decide) rfl (fun ls hl => ?_)
      have hl : lv_has ls 5 [(4, .int (nI 0)), (3, .int (nI 24)), (0, .ref (g 0)), (1, .int (nI j))] := hl
      exact lp (min q 24 + 1) q wd1 0 tm _ _ _ (by omega) (by rw [show min q 24 = 24 by omega]; exact (lv_sub hl [2, 3, 1, 0] rfl)) hw hq hqb hres (Nat.zero_le _) (fun i qi => absurd qi (Nat.not_lt_zero _)) (fun y _ => rfl)
  refine lv_aload_n (pc := 0) hx hb d_M_note_0 rfl (lv_at hl 0 rfl) ?_
  refine mg_wl (pc := 1) hC hw d_M_note_1 ?_
  refine lv_istore_n (pc := 4) hx hb d_M_note_4 rfl hl (by decide) rfl (fun ls hl => ?_)
  have hl : lv_has ls 5 [(3, .int (nI n)), (0, .ref (g 0)), (1, .int (nI j)), (2, .int 1)] := hl
  refine lv_iload_n (pc := 5) hx hb d_M_note_5 rfl (lv_at hl 3 rfl) ?_
  refine lv_if_eq (pc := 6) (tgt := 60) hx hb d_M_note_6 (by decide) (fun hc6 => ?_) (fun hc6 => ?_)
  · exact absurd hc6 (by decide)
  · refine lv_iload_n (pc := 9) hx hb d_M_note_9 rfl (lv_at hl 0 rfl) ?_
    refine lv_iconst (pc := 10) (v := nI 5) hx hb d_M_note_10 (by decide) ?_
    refine nc_lt (pc := 11) (tgt := 60) hx hb d_M_note_11 (by decide) (by omega) (by omega) (fun hc11 => ?_) (fun hc11 => ?_)
    · have hni : ¬ ies wd n = true := by unfold ies; rw [decide_eq_true_eq]; exact fun q => absurd q.1 (by omega)
      refine lv_iload_n (pc := 60) hx hb d_M_note_60 rfl (lv_at hl 3 rfl) ?_
      refine lv_if_eq (pc := 61) (tgt := 102) hx hb d_M_note_61 (by decide) (fun hc61 => ?_) (fun hc61 => ?_)
      · exact absurd hc61 (by decide)
      · refine lv_iload_n (pc := 64) hx hb d_M_note_64 rfl (lv_at hl 0 rfl) ?_
        refine lv_iconst (pc := 65) (v := nI 4) hx hb d_M_note_65 (by decide) ?_
        refine nc_lt (pc := 66) (tgt := 102) hx hb d_M_note_66 (by decide) (by omega) (by omega) (fun hc66 => ?_) (fun hc66 => ?_)
        · exact tail (n) wd _ _ _ (lv_sub hl [1, 2, 0] rfl) hw (by omega) (hby) (fun _ _ z => by unfold stm; rw [if_neg hni, if_neg (by unfold los; rw [decide_eq_true_eq]; exact fun q => absurd q.1 (by omega))]; exact z)
        · refine lv_aload_n (pc := 69) hx hb d_M_note_69 rfl (lv_at hl 1 rfl) ?_
          refine lv_iconst (pc := 70) (v := nI 1) hx hb d_M_note_70 (by decide) ?_
          refine g_calli (pc := 71) (as := [.int (nI 1)]) (rest := []) hC hw (c_M_last l D g k tp tl tm sz ct wd tb (n := n) (q := 1) h (by omega) (by omega)) lm_M_last f_M_last rfl rfl rfl rfl ⟨by decide, by decide⟩ hl.1 (Nat.le_of_ble_eq_true rfl) d_M_note_71 (fun r u1 H locs hp hw => ?_)
          obtain ⟨rfl, rfl⟩ := hp
          refine lv_bipush (pc := 74) (v := 115) hx hb d_M_note_74 (by decide) ?_
          refine lv_icmp_ne (pc := 76) (tgt := 102) hx hb d_M_note_76 (by decide) (fun hc76 => ?_) (fun hc76 => ?_)
          · exact tail (n) wd _ _ _ (lv_sub hl [1, 2, 0] rfl) hw (by omega) (hby) (fun _ _ z => by unfold stm; rw [if_neg hni, if_neg (by unfold los; rw [decide_eq_true_eq]; exact fun q => hc76 q.2.1)]; exact z)
          · refine lv_aload_n (pc := 79) hx hb d_M_note_79 rfl (lv_at hl 1 rfl) ?_
            refine lv_iconst (pc := 80) (v := nI 2) hx hb d_M_note_80 (by decide) ?_
            refine g_calli (pc := 81) (as := [.int (nI 2)]) (rest := []) hC hw (c_M_last l D g k tp tl tm sz ct wd tb (n := n) (q := 2) h (by omega) (by omega)) lm_M_last f_M_last rfl rfl rfl rfl ⟨by decide, by decide⟩ hl.1 (Nat.le_of_ble_eq_true rfl) d_M_note_81 (fun r u1 H locs hp hw => ?_)
            obtain ⟨rfl, rfl⟩ := hp
            refine lv_bipush (pc := 84) (v := 115) hx hb d_M_note_84 (by decide) ?_
            refine lv_icmp_eq (pc := 86) (tgt := 102) hx hb d_M_note_86 (by decide) (fun hc86 => ?_) (fun hc86 => ?_)
            · exact tail (n) wd _ _ _ (lv_sub hl [1, 2, 0] rfl) hw (by omega) (hby) (fun _ _ z => by unfold stm; rw [if_neg hni, if_neg (by unfold los; rw [decide_eq_true_eq]; exact fun q => q.2.2.1 hc86)]; exact z)
            · refine lv_aload_n (pc := 89) hx hb d_M_note_89 rfl (lv_at hl 1 rfl) ?_
              refine lv_iconst (pc := 90) (v := nI 2) hx hb d_M_note_90 (by decide) ?_
              refine g_calli (pc := 91) (as := [.int (nI 2)]) (rest := []) hC hw (c_M_last l D g k tp tl tm sz ct wd tb (n := n) (q := 2) h (by omega) (by omega)) lm_M_last f_M_last rfl rfl rfl rfl ⟨by decide, by decide⟩ hl.1 (Nat.le_of_ble_eq_true rfl) d_M_note_91 (fun r u1 H locs hp hw => ?_)
              obtain ⟨rfl, rfl⟩ := hp
              refine lv_bipush (pc := 94) (v := 117) hx hb d_M_note_94 (by decide) ?_
              refine lv_icmp_eq (pc := 96) (tgt := 102) hx hb d_M_note_96 (by decide) (fun hc96 => ?_) (fun hc96 => ?_)
              · exact tail (n) wd _ _ _ (lv_sub hl [1, 2, 0] rfl) hw (by omega) (hby) (fun _ _ z => by unfold stm; rw [if_neg hni, if_neg (by unfold los; rw [decide_eq_true_eq]; exact fun q => q.2.2.2 hc96)]; exact z)
              · refine lv_iinc (pc := 99) (k := 0) (v := nI (n - 1)) hx hb d_M_note_99 hl rfl (n_m1 (by omega)) (by decide) rfl (fun ls hl => ?_)
                have hl : lv_has ls 5 [(3, .int (nI (n - 1))), (0, .ref (g 0)), (1, .int (nI j)), (2, .int 1)] := hl
                exact tail (n - 1) wd _ _ _ (lv_sub hl [1, 2, 0] rfl) hw (by omega) (fun i qi => hby i (by omega)) (fun _ _ z => by unfold stm; rw [if_neg hni, if_pos (by unfold los; rw [decide_eq_true_eq]; exact ⟨hc66, hc76, hc86, hc96⟩)]; exact z)
    · refine lv_aload_n (pc := 14) hx hb d_M_note_14 rfl (lv_at hl 1 rfl) ?_
      refine lv_iconst (pc := 15) (v := nI 1) hx hb d_M_note_15 (by decide) ?_
      refine g_calli (pc := 16) (as := [.int (nI 1)]) (rest := []) hC hw (c_M_last l D g k tp tl tm sz ct wd tb (n := n) (q := 1) h (by omega) (by omega)) lm_M_last f_M_last rfl rfl rfl rfl ⟨by decide, by decide⟩ hl.1 (Nat.le_of_ble_eq_true rfl) d_M_note_16 (fun r u1 H locs hp hw => ?_)
      obtain ⟨rfl, rfl⟩ := hp
      refine lv_bipush (pc := 19) (v := 115) hx hb d_M_note_19 (by decide) ?_
      refine lv_icmp_ne (pc := 21) (tgt := 60) hx hb d_M_note_21 (by decide) (fun hc21 => ?_) (fun hc21 => ?_)
      · have hni : ¬ ies wd n = true := by unfold ies; rw [decide_eq_true_eq]; exact fun q => hc21 q.2.1
        refine lv_iload_n (pc := 60) hx hb d_M_note_60 rfl (lv_at hl 3 rfl) ?_
        refine lv_if_eq (pc := 61) (tgt := 102) hx hb d_M_note_61 (by decide) (fun hc61 => ?_) (fun hc61 => ?_)
        · exact absurd hc61 (by decide)
        · refine lv_iload_n (pc := 64) hx hb d_M_note_64 rfl (lv_at hl 0 rfl) ?_
          refine lv_iconst (pc := 65) (v := nI 4) hx hb d_M_note_65 (by decide) ?_
          refine nc_lt (pc := 66) (tgt := 102) hx hb d_M_note_66 (by decide) (by omega) (by omega) (fun hc66 => ?_) (fun hc66 => ?_)
          · exact tail (n) wd _ _ _ (lv_sub hl [1, 2, 0] rfl) hw (by omega) (hby) (fun _ _ z => by unfold stm; rw [if_neg hni, if_neg (by unfold los; rw [decide_eq_true_eq]; exact fun q => absurd q.1 (by omega))]; exact z)
          · refine lv_aload_n (pc := 69) hx hb d_M_note_69 rfl (lv_at hl 1 rfl) ?_
            refine lv_iconst (pc := 70) (v := nI 1) hx hb d_M_note_70 (by decide) ?_
            refine g_calli (pc := 71) (as := [.int (nI 1)]) (rest := []) hC hw (c_M_last l D g k tp tl tm sz ct wd tb (n := n) (q := 1) h (by omega) (by omega)) lm_M_last f_M_last rfl rfl rfl rfl ⟨by decide, by decide⟩ hl.1 (Nat.le_of_ble_eq_true rfl) d_M_note_71 (fun r u1 H locs hp hw => ?_)
            obtain ⟨rfl, rfl⟩ := hp
            refine lv_bipush (pc := 74) (v := 115) hx hb d_M_note_74 (by decide) ?_
            refine lv_icmp_ne (pc := 76) (tgt := 102) hx hb d_M_note_76 (by decide) (fun hc76 => ?_) (fun hc76 => ?_)
            · exact tail (n) wd _ _ _ (lv_sub hl [1, 2, 0] rfl) hw (by omega) (hby) (fun _ _ z => by unfold stm; rw [if_neg hni, if_neg (by unfold los; rw [decide_eq_true_eq]; exact fun q => hc76 q.2.1)]; exact z)
            · refine lv_aload_n (pc := 79) hx hb d_M_note_79 rfl (lv_at hl 1 rfl) ?_
              refine lv_iconst (pc := 80) (v := nI 2) hx hb d_M_note_80 (by decide) ?_
              refine g_calli (pc := 81) (as := [.int (nI 2)]) (rest := []) hC hw (c_M_last l D g k tp tl tm sz ct wd tb (n := n) (q := 2) h (by omega) (by omega)) lm_M_last f_M_last rfl rfl rfl rfl ⟨by decide, by decide⟩ hl.1 (Nat.le_of_ble_eq_true rfl) d_M_note_81 (fun r u1 H locs hp hw => ?_)
              obtain ⟨rfl, rfl⟩ := hp
              refine lv_bipush (pc := 84) (v := 115) hx hb d_M_note_84 (by decide) ?_
              refine lv_icmp_eq (pc := 86) (tgt := 102) hx hb d_M_note_86 (by decide) (fun hc86 => ?_) (fun hc86 => ?_)
              · exact tail (n) wd _ _ _ (lv_sub hl [1, 2, 0] rfl) hw (by omega) (hby) (fun _ _ z => by unfold stm; rw [if_neg hni, if_neg (by unfold los; rw [decide_eq_true_eq]; exact fun q => q.2.2.1 hc86)]; exact z)
              · refine lv_aload_n (pc := 89) hx hb d_M_note_89 rfl (lv_at hl 1 rfl) ?_
                refine lv_iconst (pc := 90) (v := nI 2) hx hb d_M_note_90 (by decide) ?_
                refine g_calli (pc := 91) (as := [.int (nI 2)]) (rest := []) hC hw (c_M_last l D g k tp tl tm sz ct wd tb (n := n) (q := 2) h (by omega) (by omega)) lm_M_last f_M_last rfl rfl rfl rfl ⟨by decide, by decide⟩ hl.1 (Nat.le_of_ble_eq_true rfl) d_M_note_91 (fun r u1 H locs hp hw => ?_)
                obtain ⟨rfl, rfl⟩ := hp
                refine lv_bipush (pc := 94) (v := 117) hx hb d_M_note_94 (by decide) ?_
                refine lv_icmp_eq (pc := 96) (tgt := 102) hx hb d_M_note_96 (by decide) (fun hc96 => ?_) (fun hc96 => ?_)
                · exact tail (n) wd _ _ _ (lv_sub hl [1, 2, 0] rfl) hw (by omega) (hby) (fun _ _ z => by unfold stm; rw [if_neg hni, if_neg (by unfold los; rw [decide_eq_true_eq]; exact fun q => q.2.2.2 hc96)]; exact z)
                · refine lv_iinc (pc := 99) (k := 0) (v := nI (n - 1)) hx hb d_M_note_99 hl rfl (n_m1 (by omega)) (by decide) rfl (fun ls hl => ?_)
                  have hl : lv_has ls 5 [(3, .int (nI (n - 1))), (0, .ref (g 0)), (1, .int (nI j)), (2, .int 1)] := hl
                  exact tail (n - 1) wd _ _ _ (lv_sub hl [1, 2, 0] rfl) hw (by omega) (fun i qi => hby i (by omega)) (fun _ _ z => by unfold stm; rw [if_neg hni, if_pos (by unfold los; rw [decide_eq_true_eq]; exact ⟨hc66, hc76, hc86, hc96⟩)]; exact z)
      · refine lv_aload_n (pc := 24) hx hb d_M_note_24 rfl (lv_at hl 1 rfl) ?_
        refine lv_iconst (pc := 25) (v := nI 2) hx hb d_M_note_25 (by decide) ?_
        refine g_calli (pc := 26) (as := [.int (nI 2)]) (rest := []) hC hw (c_M_last l D g k tp tl tm sz ct wd tb (n := n) (q := 2) h (by omega) (by omega)) lm_M_last f_M_last rfl rfl rfl rfl ⟨by decide, by decide⟩ hl.1 (Nat.le_of_ble_eq_true rfl) d_M_note_26 (fun r u1 H locs hp hw => ?_)
        obtain ⟨rfl, rfl⟩ := hp
        refine lv_bipush (pc := 29) (v := 101) hx hb d_M_note_29 (by decide) ?_
        refine lv_icmp_ne (pc := 31) (tgt := 60) hx hb d_M_note_31 (by decide) (fun hc31 => ?_) (fun hc31 => ?_)
        · have hni : ¬ ies wd n = true := by unfold ies; rw [decide_eq_true_eq]; exact fun q => hc31 q.2.2.1
          refine lv_iload_n (pc := 60) hx hb d_M_note_60 rfl (lv_at hl 3 rfl) ?_
          refine lv_if_eq (pc := 61) (tgt := 102) hx hb d_M_note_61 (by decide) (fun hc61 => ?_) (fun hc61 => ?_)
          · exact absurd hc61 (by decide)
          · refine lv_iload_n (pc := 64) hx hb d_M_note_64 rfl (lv_at hl 0 rfl) ?_
            refine lv_iconst (pc := 65) (v := nI 4) hx hb d_M_note_65 (by decide) ?_
            refine nc_lt (pc := 66) (tgt := 102) hx hb d_M_note_66 (by decide) (by omega) (by omega) (fun hc66 => ?_) (fun hc66 => ?_)
            · exact tail (n) wd _ _ _ (lv_sub hl [1, 2, 0] rfl) hw (by omega) (hby) (fun _ _ z => by unfold stm; rw [if_neg hni, if_neg (by unfold los; rw [decide_eq_true_eq]; exact fun q => absurd q.1 (by omega))]; exact z)
            · refine lv_aload_n (pc := 69) hx hb d_M_note_69 rfl (lv_at hl 1 rfl) ?_
              refine lv_iconst (pc := 70) (v := nI 1) hx hb d_M_note_70 (by decide) ?_
              refine g_calli (pc := 71) (as := [.int (nI 1)]) (rest := []) hC hw (c_M_last l D g k tp tl tm sz ct wd tb (n := n) (q := 1) h (by omega) (by omega)) lm_M_last f_M_last rfl rfl rfl rfl ⟨by decide, by decide⟩ hl.1 (Nat.le_of_ble_eq_true rfl) d_M_note_71 (fun r u1 H locs hp hw => ?_)
              obtain ⟨rfl, rfl⟩ := hp
              refine lv_bipush (pc := 74) (v := 115) hx hb d_M_note_74 (by decide) ?_
              refine lv_icmp_ne (pc := 76) (tgt := 102) hx hb d_M_note_76 (by decide) (fun hc76 => ?_) (fun hc76 => ?_)
              · exact tail (n) wd _ _ _ (lv_sub hl [1, 2, 0] rfl) hw (by omega) (hby) (fun _ _ z => by unfold stm; rw [if_neg hni, if_neg (by unfold los; rw [decide_eq_true_eq]; exact fun q => hc76 q.2.1)]; exact z)
              · refine lv_aload_n (pc := 79) hx hb d_M_note_79 rfl (lv_at hl 1 rfl) ?_
                refine lv_iconst (pc := 80) (v := nI 2) hx hb d_M_note_80 (by decide) ?_
                refine g_calli (pc := 81) (as := [.int (nI 2)]) (rest := []) hC hw (c_M_last l D g k tp tl tm sz ct wd tb (n := n) (q := 2) h (by omega) (by omega)) lm_M_last f_M_last rfl rfl rfl rfl ⟨by decide, by decide⟩ hl.1 (Nat.le_of_ble_eq_true rfl) d_M_note_81 (fun r u1 H locs hp hw => ?_)
                obtain ⟨rfl, rfl⟩ := hp
                refine lv_bipush (pc := 84) (v := 115) hx hb d_M_note_84 (by decide) ?_
                refine lv_icmp_eq (pc := 86) (tgt := 102) hx hb d_M_note_86 (by decide) (fun hc86 => ?_) (fun hc86 => ?_)
                · exact tail (n) wd _ _ _ (lv_sub hl [1, 2, 0] rfl) hw (by omega) (hby) (fun _ _ z => by unfold stm; rw [if_neg hni, if_neg (by unfold los; rw [decide_eq_true_eq]; exact fun q => q.2.2.1 hc86)]; exact z)
                · refine lv_aload_n (pc := 89) hx hb d_M_note_89 rfl (lv_at hl 1 rfl) ?_
                  refine lv_iconst (pc := 90) (v := nI 2) hx hb d_M_note_90 (by decide) ?_
                  refine g_calli (pc := 91) (as := [.int (nI 2)]) (rest := []) hC hw (c_M_last l D g k tp tl tm sz ct wd tb (n := n) (q := 2) h (by omega) (by omega)) lm_M_last f_M_last rfl rfl rfl rfl ⟨by decide, by decide⟩ hl.1 (Nat.le_of_ble_eq_true rfl) d_M_note_91 (fun r u1 H locs hp hw => ?_)
                  obtain ⟨rfl, rfl⟩ := hp
                  refine lv_bipush (pc := 94) (v := 117) hx hb d_M_note_94 (by decide) ?_
                  refine lv_icmp_eq (pc := 96) (tgt := 102) hx hb d_M_note_96 (by decide) (fun hc96 => ?_) (fun hc96 => ?_)
                  · exact tail (n) wd _ _ _ (lv_sub hl [1, 2, 0] rfl) hw (by omega) (hby) (fun _ _ z => by unfold stm; rw [if_neg hni, if_neg (by unfold los; rw [decide_eq_true_eq]; exact fun q => q.2.2.2 hc96)]; exact z)
                  · refine lv_iinc (pc := 99) (k := 0) (v := nI (n - 1)) hx hb d_M_note_99 hl rfl (n_m1 (by omega)) (by decide) rfl (fun ls hl => ?_)
                    have hl : lv_has ls 5 [(3, .int (nI (n - 1))), (0, .ref (g 0)), (1, .int (nI j)), (2, .int 1)] := hl
                    exact tail (n - 1) wd _ _ _ (lv_sub hl [1, 2, 0] rfl) hw (by omega) (fun i qi => hby i (by omega)) (fun _ _ z => by unfold stm; rw [if_neg hni, if_pos (by unfold los; rw [decide_eq_true_eq]; exact ⟨hc66, hc76, hc86, hc96⟩)]; exact z)
        · refine lv_aload_n (pc := 34) hx hb d_M_note_34 rfl (lv_at hl 1 rfl) ?_
          refine lv_iconst (pc := 35) (v := nI 3) hx hb d_M_note_35 (by decide) ?_
          refine g_calli (pc := 36) (as := [.int (nI 3)]) (rest := []) hC hw (c_M_last l D g k tp tl tm sz ct wd tb (n := n) (q := 3) h (by omega) (by omega)) lm_M_last f_M_last rfl rfl rfl rfl ⟨by decide, by decide⟩ hl.1 (Nat.le_of_ble_eq_true rfl) d_M_note_36 (fun r u1 H locs hp hw => ?_)
          obtain ⟨rfl, rfl⟩ := hp
          refine lv_bipush (pc := 39) (v := 105) hx hb d_M_note_39 (by decide) ?_
          refine lv_icmp_ne (pc := 41) (tgt := 60) hx hb d_M_note_41 (by decide) (fun hc41 => ?_) (fun hc41 => ?_)
          · have hni : ¬ ies wd n = true := by unfold ies; rw [decide_eq_true_eq]; exact fun q => hc41 q.2.2.2
            refine lv_iload_n (pc := 60) hx hb d_M_note_60 rfl (lv_at hl 3 rfl) ?_
            refine lv_if_eq (pc := 61) (tgt := 102) hx hb d_M_note_61 (by decide) (fun hc61 => ?_) (fun hc61 => ?_)
            · exact absurd hc61 (by decide)
            · refine lv_iload_n (pc := 64) hx hb d_M_note_64 rfl (lv_at hl 0 rfl) ?_
              refine lv_iconst (pc := 65) (v := nI 4) hx hb d_M_note_65 (by decide) ?_
              refine nc_lt (pc := 66) (tgt := 102) hx hb d_M_note_66 (by decide) (by omega) (by omega) (fun hc66 => ?_) (fun hc66 => ?_)
              · exact tail (n) wd _ _ _ (lv_sub hl [1, 2, 0] rfl) hw (by omega) (hby) (fun _ _ z => by unfold stm; rw [if_neg hni, if_neg (by unfold los; rw [decide_eq_true_eq]; exact fun q => absurd q.1 (by omega))]; exact z)
              · refine lv_aload_n (pc := 69) hx hb d_M_note_69 rfl (lv_at hl 1 rfl) ?_
                refine lv_iconst (pc := 70) (v := nI 1) hx hb d_M_note_70 (by decide) ?_
                refine g_calli (pc := 71) (as := [.int (nI 1)]) (rest := []) hC hw (c_M_last l D g k tp tl tm sz ct wd tb (n := n) (q := 1) h (by omega) (by omega)) lm_M_last f_M_last rfl rfl rfl rfl ⟨by decide, by decide⟩ hl.1 (Nat.le_of_ble_eq_true rfl) d_M_note_71 (fun r u1 H locs hp hw => ?_)
                obtain ⟨rfl, rfl⟩ := hp
                refine lv_bipush (pc := 74) (v := 115) hx hb d_M_note_74 (by decide) ?_
                refine lv_icmp_ne (pc := 76) (tgt := 102) hx hb d_M_note_76 (by decide) (fun hc76 => ?_) (fun hc76 => ?_)
                · exact tail (n) wd _ _ _ (lv_sub hl [1, 2, 0] rfl) hw (by omega) (hby) (fun _ _ z => by unfold stm; rw [if_neg hni, if_neg (by unfold los; rw [decide_eq_true_eq]; exact fun q => hc76 q.2.1)]; exact z)
                · refine lv_aload_n (pc := 79) hx hb d_M_note_79 rfl (lv_at hl 1 rfl) ?_
                  refine lv_iconst (pc := 80) (v := nI 2) hx hb d_M_note_80 (by decide) ?_
                  refine g_calli (pc := 81) (as := [.int (nI 2)]) (rest := []) hC hw (c_M_last l D g k tp tl tm sz ct wd tb (n := n) (q := 2) h (by omega) (by omega)) lm_M_last f_M_last rfl rfl rfl rfl ⟨by decide, by decide⟩ hl.1 (Nat.le_of_ble_eq_true rfl) d_M_note_81 (fun r u1 H locs hp hw => ?_)
                  obtain ⟨rfl, rfl⟩ := hp
                  refine lv_bipush (pc := 84) (v := 115) hx hb d_M_note_84 (by decide) ?_
                  refine lv_icmp_eq (pc := 86) (tgt := 102) hx hb d_M_note_86 (by decide) (fun hc86 => ?_) (fun hc86 => ?_)
                  · exact tail (n) wd _ _ _ (lv_sub hl [1, 2, 0] rfl) hw (by omega) (hby) (fun _ _ z => by unfold stm; rw [if_neg hni, if_neg (by unfold los; rw [decide_eq_true_eq]; exact fun q => q.2.2.1 hc86)]; exact z)
                  · refine lv_aload_n (pc := 89) hx hb d_M_note_89 rfl (lv_at hl 1 rfl) ?_
                    refine lv_iconst (pc := 90) (v := nI 2) hx hb d_M_note_90 (by decide) ?_
                    refine g_calli (pc := 91) (as := [.int (nI 2)]) (rest := []) hC hw (c_M_last l D g k tp tl tm sz ct wd tb (n := n) (q := 2) h (by omega) (by omega)) lm_M_last f_M_last rfl rfl rfl rfl ⟨by decide, by decide⟩ hl.1 (Nat.le_of_ble_eq_true rfl) d_M_note_91 (fun r u1 H locs hp hw => ?_)
                    obtain ⟨rfl, rfl⟩ := hp
                    refine lv_bipush (pc := 94) (v := 117) hx hb d_M_note_94 (by decide) ?_
                    refine lv_icmp_eq (pc := 96) (tgt := 102) hx hb d_M_note_96 (by decide) (fun hc96 => ?_) (fun hc96 => ?_)
                    · exact tail (n) wd _ _ _ (lv_sub hl [1, 2, 0] rfl) hw (by omega) (hby) (fun _ _ z => by unfold stm; rw [if_neg hni, if_neg (by unfold los; rw [decide_eq_true_eq]; exact fun q => q.2.2.2 hc96)]; exact z)
                    · refine lv_iinc (pc := 99) (k := 0) (v := nI (n - 1)) hx hb d_M_note_99 hl rfl (n_m1 (by omega)) (by decide) rfl (fun ls hl => ?_)
                      have hl : lv_has ls 5 [(3, .int (nI (n - 1))), (0, .ref (g 0)), (1, .int (nI j)), (2, .int 1)] := hl
                      exact tail (n - 1) wd _ _ _ (lv_sub hl [1, 2, 0] rfl) hw (by omega) (fun i qi => hby i (by omega)) (fun _ _ z => by unfold stm; rw [if_neg hni, if_pos (by unfold los; rw [decide_eq_true_eq]; exact ⟨hc66, hc76, hc86, hc96⟩)]; exact z)
          · refine lv_aload_n (pc := 44) hx hb d_M_note_44 rfl (lv_at hl 1 rfl) ?_
            refine mg_wd (pc := 45) hC hw d_M_note_45 ?_
            refine lv_iload_n (pc := 48) hx hb d_M_note_48 rfl (lv_at hl 0 rfl) ?_
            refine lv_iconst (pc := 49) (v := nI 3) hx hb d_M_note_49 (by decide) ?_
            refine lv_isub (pc := 50) hx hb d_M_note_50 ?_
            refine g_top (y := nI (n - 3)) (pk_sub (by omega)) ?_
            refine lv_bipush (pc := 51) (v := 121) hx hb d_M_note_51 (by decide) ?_
            refine ms_wd (pc := 53) (i := n - 3) (x := 121) (by omega) (by decide) hC hw d_M_note_53 (fun H locs hw => ?_)
            refine lv_iinc (pc := 54) (k := 0) (v := nI (n - 2)) hx hb d_M_note_54 hl rfl (n_m2 (by omega)) (by decide) rfl (fun ls hl => ?_)
            have hl : lv_has ls 5 [(3, .int (nI (n - 2))), (0, .ref (g 0)), (1, .int (nI j)), (2, .int 1)] := hl
            refine lv_goto (pc := 57) (tgt := 102) hx hb d_M_note_57 (by decide) ?_
            exact tail (n - 2) (upd wd (n - 3) 121) _ _ _ (lv_sub hl [1, 2, 0] rfl) hw (by omega) (fun i qi => by
                by_cases ei : i = n - 3
                · rw [ei, pk_us]; exact (by decide : (121 : Int32).toInt8.toInt32 = 121)
                · rw [pk_un ei]; exact hby i (by omega)) (fun _ _ z => by
                unfold stm
                rw [if_pos (by unfold ies; rw [decide_eq_true_eq]; exact ⟨hc11, hc21, hc31, hc41⟩)]
                exact wrt_ext z rfl (fun i _ => rfl))
set_option maxHeartbeats 4000000 in
set_option maxRecDepth 100000 in
theorem c_M_note_n (l : Launch) (D : va_G) (g : Nat → Nat) (k : Nat → ClassId) (tp : Nat → Int32) (tl : Int32) (tm : Nat → Int32) (sz : Nat → Int32) (ct : Int32) (wd : Nat → Int32) (tb : Nat → Int32) {n j : Nat} (h : n ≤ 300) (hj : j < 151) (hby : ∀ i, i < n → by_ok (wd i)) : gMv l y_M_note (gW y_M_note b_M_note 5 none) (gR 1) D (mT k) (mw g k) [.ref (g 0), .int (nI j), .int 0] (tp, tl, tm, sz, ct, wd, (nI n), tb) (fun u => ∃ tm1 sz1 wd1, u = (tp, tl, tm1, sz1, ct, wd1, nI n, tb) ∧ wrt tm sz tm1 sz1 j (pln wd n)) := by
  refine g_startv (by decide) (Nat.le_of_ble_eq_true rfl) ?_
  intro p ev s m args below meth cd A Q ls hC hQ hl hw
  have hx := hC.1.1
  have hb := hC.1.2.1
  have hl : lv_has ls 5 [(0, .ref (g 0)), (1, .int (nI j)), (2, .int 0)] := hl
  have lp : ∀ (fu : Nat) (q : Nat) (wd1 : Nat → Int32) (x : Nat) (tm1 : Nat → Int32) (ls : Array Slot) (H : Heap) (locs : List Loc), min q 24 - x < fu → lv_has ls 5 [(0, .ref (g 0)), (1, .int (nI j)), (3, .int (nI (min q 24))), (4, .int (nI x))] → gH D (mw g k) A s.heap (tp, tl, tm1, sz, ct, wd1, (nI n), tb) H locs → (q ≤ 300) → (∀ i, i < q → by_ok (wd1 i)) → (∀ tm2 sz2, wrt tm sz tm2 sz2 j (pln wd1 q) → wrt tm sz tm2 sz2 j (pln wd n)) → (x ≤ min q 24) → (∀ i, i < x → tm1 (24 * j + i) = wd1 i) → (∀ y, (y < 24 * j ∨ 24 * j + 24 ≤ y) → tm1 y = tm y) → W p l ev (gR 1) s m args below meth cd H locs 0 0 Q (F0 m 114 ls []) := by
    intro fu
    induction fu with
    | zero => intro q wd1 x tm1 ls H locs hn hl hw hq hqb hres h1 h2 h3; exact absurd hn (Nat.not_lt_zero _)
    | succ fu ih =>
      intro q wd1 x tm1 ls H locs hn hl hw hq hqb hres h1 h2 h3
      refine lv_iload (pc := 114) hx hb d_M_note_114 (lv_at hl 3 rfl) ?_
      refine lv_iload_n (pc := 116) hx hb d_M_note_116 rfl (lv_at hl 2 rfl) ?_
      refine nc_ge (pc := 117) (tgt := 145) hx hb d_M_note_117 (by decide) (by omega) (by omega) (fun hc117 => ?_) (fun hc117 => ?_)
      · have ex : x = min q 24 := by omega
        subst ex
        refine lv_aload_n (pc := 145) hx hb d_M_note_145 rfl (lv_at hl 0 rfl) ?_
        refine mg_sz (pc := 146) hC hw d_M_note_146 ?_
        refine lv_iload_n (pc := 149) hx hb d_M_note_149 rfl (lv_at hl 1 rfl) ?_
        refine lv_iload_n (pc := 150) hx hb d_M_note_150 rfl (lv_at hl 2 rfl) ?_
        refine ms_sz (pc := 151) (i := j) (x := nI (min q 24)) (by omega) hC hw d_M_note_151 (fun H locs hw => ?_)
        exact hQ _ _ _ _ _ hw (⟨tm1, _, wd1, rfl, hres _ _ ⟨Nat.min_le_right _ _, rfl, h2, h3⟩⟩) d_M_note_152
      · refine lv_aload_n (pc := 120) hx hb d_M_note_120 rfl (lv_at hl 0 rfl) ?_
        refine mg_tm (pc := 121) hC hw d_M_note_121 ?_
        refine lv_bipush (pc := 124) (v := nI 24) hx hb d_M_note_124 (by decide) ?_
        refine lv_iload_n (pc := 126) hx hb d_M_note_126 rfl (lv_at hl 1 rfl) ?_
        refine lv_imul (pc := 127) hx hb d_M_note_127 ?_
        refine g_top (y := nI (24 * j)) (pk_mul _ _) ?_
        refine lv_iload (pc := 128) hx hb d_M_note_128 (lv_at hl 3 rfl) ?_
        refine lv_iadd (pc := 130) hx hb d_M_note_130 ?_
        refine g_top (y := nI ((24 * j) + x)) (nI_add _ _) ?_
        refine lv_aload_n (pc := 131) hx hb d_M_note_131 rfl (lv_at hl 0 rfl) ?_
        refine mg_wd (pc := 132) hC hw d_M_note_132 ?_
        refine lv_iload (pc := 135) hx hb d_M_note_135 (lv_at hl 3 rfl) ?_
        refine ml_wd (pc := 137) (i := x) (by omega) hC hw d_M_note_137 ?_
        refine ms_tm (pc := 138) (i := (24 * j) + x) (x := wd1 x) (by omega) (hqb x (by omega)) hC hw d_M_note_138 (fun H locs hw => ?_)
        refine lv_iinc (pc := 139) (k := 3) (v := nI (x + 1)) hx hb d_M_note_139 hl rfl (nI_i1 x) (by decide) rfl (fun ls hl => ?_)
        have hl : lv_has ls 5 [(4, .int (nI (x + 1))), (0, .ref (g 0)), (1, .int (nI j)), (3, .int (nI (min q 24)))] := hl
        refine lv_goto (pc := 142) (tgt := 114) hx hb d_M_note_142 (by decide) ?_
        refine ih q wd1 (x + 1) _ _ _ _ (by omega) (lv_sub hl [1, 2, 3, 0] rfl) hw hq hqb hres (by omega) (fun i qi => ?_) (fun y hy => ?_)
        · by_cases ei : i = x
          · rw [ei, pk_us]
          · rw [pk_un (by omega)]; exact h2 i (by omega)
        · rw [pk_un (by omega)]; exact h3 y hy
  have tail : ∀ (q : Nat) (wd1 : Nat → Int32) (ls : Array Slot) (H : Heap) (locs : List Loc), lv_has ls 5 [(0, .ref (g 0)), (1, .int (nI j)), (3, .int (nI q))] → gH D (mw g k) A s.heap (tp, tl, tm, sz, ct, wd1, (nI n), tb) H locs → q ≤ 300 → (∀ i, i < q → by_ok (wd1 i)) → (∀ tm2 sz2, wrt tm sz tm2 sz2 j (pln wd1 q) → wrt tm sz tm2 sz2 j (pln wd n)) → W p l ev (gR 1) s m args below meth cd H locs 0 0 Q (F0 m 102 ls []) := by
    intro q wd1 ls H locs hl hw hq hqb hres
    refine lv_iload_n (pc := 102) hx hb d_M_note_102 rfl (lv_at hl 2 rfl) ?_
    refine lv_bipush (pc := 103) (v := nI 24) hx hb d_M_note_103 (by decide) ?_
    refine nc_le (pc := 105) (tgt := 111) hx hb d_M_note_105 (by decide) (by omega) (by omega) (fun hc105 => ?_) (fun hc105 => ?_)
    · refine lv_iconst (pc := 111) (v := nI 0) hx hb d_M_note_111 (by decide) ?_
      refine lv_istore (pc := 112) hx hb d_M_note_112 hl (by decide) rfl (fun ls hl => ?_)
      have hl : lv_has ls 5 [(4, .int (nI 0)), (0, .ref (g 0)), (1, .int (nI j)), (3, .int (nI q))] := hl
      exact lp (min q 24 + 1) q wd1 0 tm _ _ _ (by omega) (by rw [show min q 24 = q by omega]; exact (lv_sub hl [1, 2, 3, 0] rfl)) hw hq hqb hres (Nat.zero_le _) (fun i qi => absurd qi (Nat.not_lt_zero _)) (fun y _ => rfl)
    · refine lv_bipush (pc := 108) (v := nI 24) hx hb d_M_note_108 (by decide) ?_
      refine lv_istore_n (pc := 110) hx hb d_M_note_110 rfl hl (by decide) rfl (fun ls hl => ?_)
      have hl : lv_has ls 5 [(3, .int (nI 24)), (0, .ref (g 0)), (1, .int (nI j))] := hl
      refine lv_iconst (pc := 111) (v := nI 0) hx hb d_M_note_111 (by decide) ?_
      refine lv_istore (pc := 112) hx hb d_M_note_112 hl (by decide) rfl (fun ls hl => ?_)
      have hl : lv_has ls 5 [(4, .int (nI 0)), (3, .int (nI 24)), (0, .ref (g 0)), (1, .int (nI j))] := hl
      exact lp (min q 24 + 1) q wd1 0 tm _ _ _ (by omega) (by rw [show min q 24 = 24 by omega]; exact (lv_sub hl [2, 3, 1, 0] rfl)) hw hq hqb hres (Nat.zero_le _) (fun i qi => absurd qi (Nat.not_lt_zero _)) (fun y _ => rfl)
  refine lv_aload_n (pc := 0) hx hb d_M_note_0 rfl (lv_at hl 0 rfl) ?_
  refine mg_wl (pc := 1) hC hw d_M_note_1 ?_
  refine lv_istore_n (pc := 4) hx hb d_M_note_4 rfl hl (by decide) rfl (fun ls hl => ?_)
  have hl : lv_has ls 5 [(3, .int (nI n)), (0, .ref (g 0)), (1, .int (nI j)), (2, .int 0)] := hl
  refine lv_iload_n (pc := 5) hx hb d_M_note_5 rfl (lv_at hl 3 rfl) ?_
  refine lv_if_eq (pc := 6) (tgt := 60) hx hb d_M_note_6 (by decide) (fun hc6 => ?_) (fun hc6 => ?_)
  · refine lv_iload_n (pc := 60) hx hb d_M_note_60 rfl (lv_at hl 3 rfl) ?_
    refine lv_if_eq (pc := 61) (tgt := 102) hx hb d_M_note_61 (by decide) (fun hc61 => ?_) (fun hc61 => ?_)
    · exact tail (n) wd _ _ _ (lv_sub hl [1, 2, 0] rfl) hw (by omega) (hby) (fun _ _ z => z)
    · exact absurd rfl hc61
  · exact absurd rfl hc6
