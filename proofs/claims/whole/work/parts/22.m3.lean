set_option maxHeartbeats 4000000 in
set_option maxRecDepth 100000 in
theorem c_M_oneWord (l : Launch) (D : va_G) (g : Nat → Nat) (k : Nat → ClassId) (tp : Nat → Int32) (tm : Nat → Int32) (sz : Nat → Int32) (ct : Int32) (wd : Nat → Int32) (wl : Int32) (tb : Nat → Int32) {n : Nat} (h : n ≤ 300) (hby : ∀ i, i < n → by_ok (tp i)) : gMi l y_M_oneWord (gW y_M_oneWord b_M_oneWord 2 (some .boolean)) (gR 2) D (mT k) (mw g k) [.ref (g 0)] (tp, (nI n), tm, sz, ct, wd, wl, tb) (fun r u => (isW (fun i => sm (tp i)) n = true ∧ r = 1 ∧ ∃ wd1, u = (tp, nI 0, tm, sz, ct, wd1, nI n, tb) ∧ ∀ i, i < n → wd1 i = sm (tp i)) ∨ (isW (fun i => sm (tp i)) n = false ∧ r = 0 ∧ ∃ wd1 wl1, u = (tp, nI 0, tm, sz, ct, wd1, wl1, tb))) := by
  refine g_starti (by decide) (Nat.le_of_ble_eq_true rfl) ?_
  intro p ev s m args below meth cd A Q ls hC hQ hl hw
  have hx := hC.1.1
  have hb := hC.1.2.1
  have hl : lv_has ls 2 [(0, .ref (g 0))] := hl
  refine lv_aload_n (pc := 0) hx hb d_M_oneWord_0 rfl (lv_at hl 0 rfl) ?_
  refine mg_tl (pc := 1) hC hw d_M_oneWord_1 ?_
  refine lv_if_le (pc := 4) (tgt := 23) hx hb d_M_oneWord_4 (by decide) (fun hc4 => ?_) (fun hc4 => ?_)
  · have en : n = 0 := Nat.le_zero.mp (Nat.not_lt.mp (fun q => absurd hc4 (nI_nle q (by omega))))
    refine lv_iconst (pc := 23) (v := 0) hx hb d_M_oneWord_23 (by decide) ?_
    refine lv_istore_n (pc := 24) hx hb d_M_oneWord_24 rfl hl (by decide) rfl (fun ls hl => ?_)
    have hl : lv_has ls 2 [(1, .int 0), (0, .ref (g 0))] := hl
    refine lv_aload_n (pc := 25) hx hb d_M_oneWord_25 rfl (lv_at hl 1 rfl) ?_
    refine lv_iconst (pc := 26) (v := nI 0) hx hb d_M_oneWord_26 (by decide) ?_
    refine mp_tl (pc := 27) hC hw d_M_oneWord_27 (fun H locs hw => ?_)
    have hw : gH D (mw g k) A _ (tp, (nI 0), tm, sz, ct, wd, wl, tb) H locs := hw
    refine lv_iload_n (pc := 30) hx hb d_M_oneWord_30 rfl (lv_at hl 0 rfl) ?_
    exact hQ _ _ _ _ _ _ hw (rfl) (Or.inr ⟨by rw [en]; rfl, rfl, wd, wl, rfl⟩) d_M_oneWord_31
  · have h0 : 0 < n := Nat.pos_of_ne_zero (fun q => hc4 (by rw [q]; decide))
    refine lv_aload_n (pc := 7) hx hb d_M_oneWord_7 rfl (lv_at hl 0 rfl) ?_
    refine lv_iconst (pc := 8) (v := nI 0) hx hb d_M_oneWord_8 (by decide) ?_
    refine g_calli (pc := 9) (as := [.int (nI 0)]) (rest := []) hC hw (c_M_run l D g k tp tm sz ct wd wl tb (n := n) (a := 0) h (Nat.zero_le _) hby) lm_M_run f_M_run rfl rfl rfl rfl ⟨by decide, by decide⟩ hl.1 (Nat.le_of_ble_eq_true rfl) d_M_oneWord_9 (fun r u1 H locs hp hw => ?_)
    obtain ⟨b, wd1, hb1, hb2, hb3, hb4, rfl, rfl, hb5⟩ := hp
    refine lv_aload_n (pc := 12) hx hb d_M_oneWord_12 rfl (lv_at hl 0 rfl) ?_
    refine mg_tl (pc := 13) hC hw d_M_oneWord_13 ?_
    refine nc_ne (pc := 16) (tgt := 23) hx hb d_M_oneWord_16 (by decide) (by omega) (by omega) (fun hc16 => ?_) (fun hc16 => ?_)
    · refine lv_iconst (pc := 23) (v := 0) hx hb d_M_oneWord_23 (by decide) ?_
      refine lv_istore_n (pc := 24) hx hb d_M_oneWord_24 rfl hl (by decide) rfl (fun ls hl => ?_)
      have hl : lv_has ls 2 [(1, .int 0), (0, .ref (g 0))] := hl
      refine lv_aload_n (pc := 25) hx hb d_M_oneWord_25 rfl (lv_at hl 1 rfl) ?_
      refine lv_iconst (pc := 26) (v := nI 0) hx hb d_M_oneWord_26 (by decide) ?_
      refine mp_tl (pc := 27) hC hw d_M_oneWord_27 (fun H locs hw => ?_)
      have hw : gH D (mw g k) A _ (tp, (nI 0), tm, sz, ct, wd1, (nI (b - 0)), tb) H locs := hw
      refine lv_iload_n (pc := 30) hx hb d_M_oneWord_30 rfl (lv_at hl 0 rfl) ?_
      exact hQ _ _ _ _ _ _ hw (rfl) (Or.inr ⟨isW_n (i := b) (by omega) (by rw [sgn_sm (hby b (by omega))]; exact hb4.resolve_left hc16), rfl, wd1, _, rfl⟩) d_M_oneWord_31
    · subst hc16
      refine lv_iconst (pc := 19) (v := 1) hx hb d_M_oneWord_19 (by decide) ?_
      refine lv_goto (pc := 20) (tgt := 24) hx hb d_M_oneWord_20 (by decide) ?_
      refine lv_istore_n (pc := 24) hx hb d_M_oneWord_24 rfl hl (by decide) rfl (fun ls hl => ?_)
      have hl : lv_has ls 2 [(1, .int 1), (0, .ref (g 0))] := hl
      refine lv_aload_n (pc := 25) hx hb d_M_oneWord_25 rfl (lv_at hl 1 rfl) ?_
      refine lv_iconst (pc := 26) (v := nI 0) hx hb d_M_oneWord_26 (by decide) ?_
      refine mp_tl (pc := 27) hC hw d_M_oneWord_27 (fun H locs hw => ?_)
      have hw : gH D (mw g k) A _ (tp, (nI 0), tm, sz, ct, wd1, (nI (b - 0)), tb) H locs := hw
      refine lv_iload_n (pc := 30) hx hb d_M_oneWord_30 rfl (lv_at hl 0 rfl) ?_
      exact hQ _ _ _ _ _ _ hw (rfl) (Or.inl ⟨isW_y h0 (fun i hi => by rw [sgn_sm (hby i hi)]; exact hb3 i (Nat.zero_le _) hi), rfl, wd1, rfl, fun i hi => by rw [hb5 i hi, Nat.zero_add]⟩) d_M_oneWord_31
set_option maxHeartbeats 4000000 in
set_option maxRecDepth 100000 in
theorem c_M_read (l : Launch) (D : va_G) (g : Nat → Nat) (k : Nat → ClassId) (tp : Nat → Int32) (tm : Nat → Int32) (sz : Nat → Int32) (ct : Int32) (wd : Nat → Int32) (wl : Int32) (tb : Nat → Int32) {n : Nat} (h : n ≤ 300) (hby : ∀ i, i < n → by_ok (tp i)) : gMi l y_M_read (gW y_M_read b_M_read 2 (some .int)) (gR 2) D (mT k) (mw g k) [.ref (g 0)] (tp, (nI n), tm, sz, ct, wd, wl, tb) (fun r u => ∃ tm1 sz1 wd1 wl1, r = nI (rdT (fun i => sm (tp i)) n).length ∧ u = (tp, nI 0, tm1, sz1, nI (rdT (fun i => sm (tp i)) n).length, wd1, wl1, tb) ∧ tok (rdT (fun i => sm (tp i)) n) tm1 sz1) := by
  refine g_starti (by decide) (Nat.le_of_ble_eq_true rfl) ?_
  intro p ev s m args below meth cd A Q ls hC hQ hl hw
  have hx := hC.1.1
  have hb := hC.1.2.1
  have hl : lv_has ls 2 [(0, .ref (g 0))] := hl
  refine lv_aload_n (pc := 0) hx hb d_M_read_0 rfl (lv_at hl 0 rfl) ?_
  refine lv_iconst (pc := 1) (v := nI 0) hx hb d_M_read_1 (by decide) ?_
  refine mp_ct (pc := 2) hC hw d_M_read_2 (fun H locs hw => ?_)
  have hw : gH D (mw g k) A _ (tp, (nI n), tm, sz, (nI 0), wd, wl, tb) H locs := hw
  refine lv_iconst (pc := 5) (v := nI 0) hx hb d_M_read_5 (by decide) ?_
  refine lv_istore_n (pc := 6) hx hb d_M_read_6 rfl hl (by decide) rfl (fun ls hl => ?_)
  have hl : lv_has ls 2 [(1, .int (nI 0)), (0, .ref (g 0))] := hl
  have lp : ∀ (fu : Nat) (b : Nat) (tm1 : Nat → Int32) (sz1 : Nat → Int32) (wd1 : Nat → Int32) (wl1 : Int32) (dn : List Tm) (ls : Array Slot) (H : Heap) (locs : List Loc), n - b < fu → lv_has ls 2 [(0, .ref (g 0)), (1, .int (nI b))] → gH D (mw g k) A s.heap (tp, (nI n), tm1, sz1, (nI dn.length), wd1, wl1, tb) H locs → (b ≤ n) → (tok dn tm1 sz1) → (dn ++ (scn (fun i => sgn ((fun i => sm (tp i)) i)) (n - b) b b).map (twd (fun i => sm (tp i))) = rdT (fun i => sm (tp i)) n) → W p l ev (gR 2) s m args below meth cd H locs 0 0 Q (F0 m 7 ls []) := by
    intro fu
    induction fu with
    | zero => intro b tm1 sz1 wd1 wl1 dn ls H locs hn hl hw h2 h4 h5; exact absurd hn (Nat.not_lt_zero _)
    | succ fu ih =>
      intro b tm1 sz1 wd1 wl1 dn ls H locs hn hl hw h2 h4 h5
      refine lv_iload_n (pc := 7) hx hb d_M_read_7 rfl (lv_at hl 1 rfl) ?_
      refine lv_aload_n (pc := 8) hx hb d_M_read_8 rfl (lv_at hl 0 rfl) ?_
      refine mg_tl (pc := 9) hC hw d_M_read_9 ?_
      refine nc_ge (pc := 12) (tgt := 61) hx hb d_M_read_12 (by decide) (by omega) (by omega) (fun hc12 => ?_) (fun hc12 => ?_)
      · have e1 : b = n := by omega
        have e3 : dn = rdT (fun i => sm (tp i)) n := by
          rw [← h5, show n - b = 0 by omega]
          unfold scn
          rw [if_neg (Nat.lt_irrefl b), List.map_nil, List.append_nil]
        subst e3
        refine lv_aload_n (pc := 61) hx hb d_M_read_61 rfl (lv_at hl 0 rfl) ?_
        refine lv_iconst (pc := 62) (v := nI 0) hx hb d_M_read_62 (by decide) ?_
        refine mp_tl (pc := 63) hC hw d_M_read_63 (fun H locs hw => ?_)
        have hw : gH D (mw g k) A _ (tp, (nI 0), tm1, sz1, (nI (rdT (fun i => sm (tp i)) n).length), wd1, wl1, tb) H locs := hw
        refine lv_aload_n (pc := 66) hx hb d_M_read_66 rfl (lv_at hl 0 rfl) ?_
        refine mg_ct (pc := 67) hC hw d_M_read_67 ?_
        exact hQ _ _ _ _ _ _ hw (rfl) (⟨tm1, sz1, wd1, wl1, rfl, rfl, h4⟩) d_M_read_70
      · refine lv_aload_n (pc := 15) hx hb d_M_read_15 rfl (lv_at hl 0 rfl) ?_
        refine mg_tp (pc := 16) hC hw d_M_read_16 ?_
        refine lv_iload_n (pc := 19) hx hb d_M_read_19 rfl (lv_at hl 1 rfl) ?_
        refine ml_tp (pc := 20) (i := b) (by omega) hC hw d_M_read_20 ?_
        refine g_calls (pc := 21) (as := [.int (tp b)]) (rest := []) hC hw (c_M_letter l D (tp b)) lm_M_letter f_M_letter rfl rfl ⟨by decide, by decide⟩ hl.1 (Nat.le_of_ble_eq_true rfl) d_M_read_21 (fun H locs hw => ?_)
        refine lv_if_ne (pc := 24) (tgt := 33) hx hb d_M_read_24 (by decide) (fun hc24 => ?_) (fun hc24 => ?_)
        · have hl1 : ltr (tp b) = true := bI_1 hc24
          refine lv_aload_n (pc := 33) hx hb d_M_read_33 rfl (lv_at hl 0 rfl) ?_
          refine lv_iload_n (pc := 34) hx hb d_M_read_34 rfl (lv_at hl 1 rfl) ?_
          refine g_calli (pc := 35) (as := [.int (nI b)]) (rest := []) hC hw (c_M_run l D g k tp tm1 sz1 _ wd1 wl1 tb (n := n) (a := b) h (by omega) hby) lm_M_run f_M_run rfl rfl rfl rfl ⟨by decide, by decide⟩ hl.1 (Nat.le_of_ble_eq_true rfl) d_M_read_35 (fun r u1 H locs hp hw => ?_)
          obtain ⟨e, wd2, q1, q2, q3, q4, rfl, rfl, q5⟩ := hp
          have hbe : b < e := by
            by_cases z : b = e
            · subst z; exact absurd hl1 (q4.resolve_left (by omega))
            · omega
          have q6 : e = n ∨ ¬ sgn (sm (tp e)) = true := by
            by_cases z : e = n
            · exact Or.inl z
            · right; rw [sgn_sm (hby e (by omega))]; exact q4.resolve_left z
          rw [scn_word (q := (fun i => sgn ((fun i => sm (tp i)) i))) hbe q2 (fun i x y => by show sgn (sm (tp i)) = true; rw [sgn_sm (hby i (by omega))]; exact q3 i x y) q6, List.map_cons] at h5
          have hln := congrArg List.length h5
          rw [List.length_append, List.length_cons] at hln
          have hmx := rdT_len (f := (fun i => sm (tp i))) h
          refine lv_istore_n (pc := 38) hx hb d_M_read_38 rfl hl (by decide) rfl (fun ls hl => ?_)
          have hl : lv_has ls 2 [(1, .int (nI e)), (0, .ref (g 0))] := hl
          refine lv_aload_n (pc := 39) hx hb d_M_read_39 rfl (lv_at hl 1 rfl) ?_
          refine lv_aload_n (pc := 40) hx hb d_M_read_40 rfl (lv_at hl 1 rfl) ?_
          refine mg_ct (pc := 41) hC hw d_M_read_41 ?_
          refine lv_iconst (pc := 44) (v := 1) hx hb d_M_read_44 (by decide) ?_
          refine g_callv (pc := 45) (as := [.int (nI (dn.length)), .int 1]) (rest := []) hC hw (c_M_note_y l D g k tp _ tm1 sz1 _ wd2 tb (n := e - b) (j := dn.length) (by omega) (by omega) (fun i hi => by rw [q5 i hi]; exact by_sm (hby _ (by omega)))) lm_M_note f_M_note rfl rfl rfl rfl ⟨by decide, by decide⟩ hl.1 (Nat.le_of_ble_eq_true rfl) d_M_read_45 (fun u1 H locs hp hw => ?_)
          obtain ⟨tm2, sz2, wd3, rfl, hwr⟩ := hp
          refine lv_aload_n (pc := 48) hx hb d_M_read_48 rfl (lv_at hl 1 rfl) ?_
          refine lv_dup (pc := 49) hx hb d_M_read_49 rfl ?_
          refine mg_ct (pc := 50) hC hw d_M_read_50 ?_
          refine lv_iconst (pc := 53) (v := nI 1) hx hb d_M_read_53 (by decide) ?_
          refine lv_iadd (pc := 54) hx hb d_M_read_54 ?_
          refine g_top (y := nI (dn.length + 1)) (nI_add _ _) ?_
          refine mp_ct (pc := 55) hC hw d_M_read_55 (fun H locs hw => ?_)
          have hw : gH D (mw g k) A _ (tp, (nI n), tm2, sz2, (nI (dn.length + 1)), wd3, (nI (e - b)), tb) H locs := hw
          refine lv_goto (pc := 58) (tgt := 7) hx hb d_M_read_58 (by decide) ?_
          have hs := stm_ext (w := wd2) (v := fun i => (fun i => sm (tp i)) (b + i)) (n := e - b) q5
          exact ih e tm2 sz2 wd3 _ (dn ++ [twd (fun i => sm (tp i)) (b, e)]) _ _ _ (by omega) (lv_sub hl [1, 0] rfl) (by rw [List.length_append, List.length_singleton]; exact hw) q2 (tok_push h4 (wrt_ext hwr hs.1 hs.2)) (by rw [← h5, List.append_assoc]; rfl)
        · refine lv_iinc (pc := 27) (k := 1) (v := nI (b + 1)) hx hb d_M_read_27 hl rfl (nI_i1 b) (by decide) rfl (fun ls hl => ?_)
          have hl : lv_has ls 2 [(1, .int (nI (b + 1))), (0, .ref (g 0))] := hl
          refine lv_goto (pc := 30) (tgt := 7) hx hb d_M_read_30 (by decide) ?_
          rw [show n - b = (n - (b + 1)) + 1 by omega, scn_skip (q := (fun i => sgn ((fun i => sm (tp i)) i))) (by show ¬ sgn (sm (tp b)) = true; rw [sgn_sm (hby b (by omega)), bI_0 hc24]; decide)] at h5
          exact ih (b + 1) tm1 sz1 wd1 wl1 dn _ _ _ (by omega) (lv_sub hl [1, 0] rfl) hw (by omega) h4 h5
  exact lp (n + 1) 0 tm sz wd wl [] _ _ _ (by omega) (lv_sub hl [1, 0] rfl) hw (Nat.zero_le _) tok_nil rfl
