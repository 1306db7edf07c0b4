theorem scn_bd {q : Nat → Bool} {n b a : Nat} (h : b = n ∨ (b < n ∧ ¬ q b = true)) : scn q (n - b) b a = (if a < b then [(a, b)] else []) ++ scn q (n - (b + 1)) (b + 1) (b + 1) := by
  rcases h with h | ⟨h1, h2⟩
  · subst h
    rw [Nat.sub_self, show b - (b + 1) = 0 by omega]
    unfold scn
    rw [if_neg (Nat.lt_irrefl (b + 1)), List.append_nil]
  · rw [show n - b = (n - (b + 1)) + 1 by omega, scn_out h2]
theorem twd_wrt {tp f sg ln sg1 ln1 : Nat → Int32} {a b j : Nat} (h : wrt sg ln sg1 ln1 j (stm (fun i => tp (a + i)) (b - a))) (he : ∀ i, a ≤ i → i < b → tp i = f i) : wrt sg ln sg1 ln1 j (twd f (a, b)) := by
  have q := stm_ext (w := fun i => tp (a + i)) (v := fun i => f (a + i)) (n := b - a) (fun i hi => he (a + i) (by omega) (by omega))
  exact wrt_ext h q.1 q.2
set_option maxHeartbeats 4000000 in
set_option maxRecDepth 100000 in
theorem c_X_read (l : Launch) (D : va_G) (g : Nat → Nat) (k : Nat → ClassId) (tp : Nat → Int32) (sg ln : Nat → Int32) (tc : Int32) (ds : Nat → Int32) {n : Nat} {f : Nat → Int32} (h : n ≤ 300) (hf : ∀ i, i < n → tp i = f i ∧ by_ok (f i)) : gMi l y_X_read (gW y_X_read b_X_read 3 (some .int)) (gR 5) D (xT k) (xw g k) [.ref (g 0)] (tp, (nI n), sg, ln, tc, ds) (fun r u => ∃ tp1 sg1 ln1, r = nI (rdT f n).length ∧ u = (tp1, nI 0, sg1, ln1, nI (rdT f n).length, ds) ∧ tok (rdT f n) sg1 ln1) := by
  refine g_starti (by decide) (Nat.le_of_ble_eq_true rfl) ?_
  intro p ev s m args below meth cd A Q ls hC hQ hl hw
  have hx := hC.1.1
  have hb := hC.1.2.1
  have hl : lv_has ls 3 [(0, .ref (g 0))] := hl
  refine lv_aload_n (pc := 0) hx hb d_X_read_0 rfl (lv_at hl 0 rfl) ?_
  refine lv_iconst (pc := 1) (v := nI 0) hx hb d_X_read_1 (by decide) ?_
  refine xp_tc (pc := 2) hC hw d_X_read_2 (fun H locs hw => ?_)
  have hw : gH D (xw g k) A _ (tp, (nI n), sg, ln, (nI 0), ds) H locs := hw
  refine lv_iconst (pc := 5) (v := nI 0) hx hb d_X_read_5 (by decide) ?_
  refine lv_istore_n (pc := 6) hx hb d_X_read_6 rfl hl (by decide) rfl (fun ls hl => ?_)
  have hl : lv_has ls 3 [(1, .int (nI 0)), (0, .ref (g 0))] := hl
  refine lv_iconst (pc := 7) (v := nI 0) hx hb d_X_read_7 (by decide) ?_
  refine lv_istore_n (pc := 8) hx hb d_X_read_8 rfl hl (by decide) rfl (fun ls hl => ?_)
  have hl : lv_has ls 3 [(2, .int (nI 0)), (1, .int (nI 0)), (0, .ref (g 0))] := hl
  have lp : ∀ (fu : Nat) (a : Nat) (b : Nat) (tp1 : Nat → Int32) (sg1 : Nat → Int32) (ln1 : Nat → Int32) (dn : List Tm) (ls : Array Slot) (H : Heap) (locs : List Loc), n + 1 - b < fu → lv_has ls 3 [(0, .ref (g 0)), (1, .int (nI a)), (2, .int (nI b))] → gH D (xw g k) A s.heap (tp1, (nI n), sg1, ln1, (nI dn.length), ds) H locs → (a ≤ b) → (b ≤ n + 1) → (b = n + 1 → a = b) → (∀ i, a ≤ i → i < n → tp1 i = f i) → (tok dn sg1 ln1) → (dn ++ (scn (fun i => sgn (f i)) (n - b) b a).map (twd f) = rdT f n) → W p l ev (gR 5) s m args below meth cd H locs 0 0 Q (F0 m 9 ls []) := by
    intro fu
    induction fu with
    | zero => intro a b tp1 sg1 ln1 dn ls H locs hn hl hw h1 h2 h7 h3 h4 h5; exact absurd hn (Nat.not_lt_zero _)
    | succ fu ih =>
      intro a b tp1 sg1 ln1 dn ls H locs hn hl hw h1 h2 h7 h3 h4 h5
      refine lv_iload_n (pc := 9) hx hb d_X_read_9 rfl (lv_at hl 2 rfl) ?_
      refine lv_aload_n (pc := 10) hx hb d_X_read_10 rfl (lv_at hl 0 rfl) ?_
      refine xg_tl (pc := 11) hC hw d_X_read_11 ?_
      refine nc_gt (pc := 14) (tgt := 58) hx hb d_X_read_14 (by decide) (by omega) (by omega) (fun hc14 => ?_) (fun hc14 => ?_)
      · have e1 : b = n + 1 := by omega
        have e2 : a = b := h7 e1
        subst e2
        have e3 : dn = rdT f n := by
          rw [← h5, show n - a = 0 by omega]
          unfold scn
          rw [if_neg (Nat.lt_irrefl a), List.map_nil, List.append_nil]
        subst e3
        refine lv_aload_n (pc := 58) hx hb d_X_read_58 rfl (lv_at hl 0 rfl) ?_
        refine lv_iconst (pc := 59) (v := nI 0) hx hb d_X_read_59 (by decide) ?_
        refine xp_tl (pc := 60) hC hw d_X_read_60 (fun H locs hw => ?_)
        have hw : gH D (xw g k) A _ (tp1, (nI 0), sg1, ln1, (nI (rdT f n).length), ds) H locs := hw
        refine lv_aload_n (pc := 63) hx hb d_X_read_63 rfl (lv_at hl 0 rfl) ?_
        refine xg_tc (pc := 64) hC hw d_X_read_64 ?_
        exact hQ _ _ _ _ _ _ hw (rfl) (⟨tp1, sg1, ln1, rfl, rfl, h4⟩) d_X_read_67
      · refine lv_iload_n (pc := 17) hx hb d_X_read_17 rfl (lv_at hl 2 rfl) ?_
        refine lv_aload_n (pc := 18) hx hb d_X_read_18 rfl (lv_at hl 0 rfl) ?_
        refine xg_tl (pc := 19) hC hw d_X_read_19 ?_
        refine nc_eq (pc := 22) (tgt := 37) hx hb d_X_read_22 (by decide) (by omega) (by omega) (fun hc22 => ?_) (fun hc22 => ?_)
        · have hbd := scn_bd (q := fun i => sgn (f i)) (n := n) (b := b) (a := a) (Or.inl hc22)
          rw [hbd] at h5
          refine lv_iload_n (pc := 37) hx hb d_X_read_37 rfl (lv_at hl 1 rfl) ?_
          refine lv_iload_n (pc := 38) hx hb d_X_read_38 rfl (lv_at hl 2 rfl) ?_
          refine nc_ge (pc := 39) (tgt := 48) hx hb d_X_read_39 (by decide) (by omega) (by omega) (fun hc39 => ?_) (fun hc39 => ?_)
          · rw [if_neg (Nat.not_lt.mpr hc39), List.nil_append] at h5
            refine lv_iload_n (pc := 48) hx hb d_X_read_48 rfl (lv_at hl 2 rfl) ?_
            refine lv_iconst (pc := 49) (v := nI 1) hx hb d_X_read_49 (by decide) ?_
            refine lv_iadd (pc := 50) hx hb d_X_read_50 ?_
            refine g_top (y := nI (b + 1)) (nI_add _ _) ?_
            refine lv_istore_n (pc := 51) hx hb d_X_read_51 rfl hl (by decide) rfl (fun ls hl => ?_)
            have hl : lv_has ls 3 [(1, .int (nI (b + 1))), (0, .ref (g 0)), (2, .int (nI b))] := hl
            refine lv_iinc (pc := 52) (k := 2) (v := nI (b + 1)) hx hb d_X_read_52 hl rfl (nI_i1 b) (by decide) rfl (fun ls hl => ?_)
            have hl : lv_has ls 3 [(2, .int (nI (b + 1))), (1, .int (nI (b + 1))), (0, .ref (g 0))] := hl
            refine lv_goto (pc := 55) (tgt := 9) hx hb d_X_read_55 (by decide) ?_
            exact ih (b + 1) (b + 1) tp1 sg1 ln1 dn _ _ _ (by omega) (lv_sub hl [2, 1, 0] rfl) hw (Nat.le_refl _) (by omega) (fun _ => rfl) (fun i q1 q2 => h3 i (by omega) q2) (h4) (h5)
          · rw [if_pos hc39] at h5
            have hln := congrArg List.length h5
            rw [List.length_append, List.length_map, List.length_append, List.length_singleton] at hln
            have hmx := rdT_len (f := f) h
            refine lv_aload_n (pc := 42) hx hb d_X_read_42 rfl (lv_at hl 0 rfl) ?_
            refine lv_iload_n (pc := 43) hx hb d_X_read_43 rfl (lv_at hl 1 rfl) ?_
            refine lv_iload_n (pc := 44) hx hb d_X_read_44 rfl (lv_at hl 2 rfl) ?_
            refine g_callv (pc := 45) (as := [.int (nI a), .int (nI b)]) (rest := []) hC hw (c_X_addTerm l D g k tp1 _ sg1 ln1 ds (c := dn.length) (a := a) (b := b) (by omega) h1 (by omega) (fun i q1 q2 => by rw [h3 i q1 (by omega)]; exact (hf i (by omega)).2)) lm_X_addTerm f_X_addTerm rfl rfl rfl rfl ⟨by decide, by decide⟩ hl.1 (Nat.le_of_ble_eq_true rfl) d_X_read_45 (fun u1 H locs hp hw => ?_)
            obtain ⟨tp2, sg2, ln2, rfl, hwr, hfr⟩ := hp
            refine lv_iload_n (pc := 48) hx hb d_X_read_48 rfl (lv_at hl 2 rfl) ?_
            refine lv_iconst (pc := 49) (v := nI 1) hx hb d_X_read_49 (by decide) ?_
            refine lv_iadd (pc := 50) hx hb d_X_read_50 ?_
            refine g_top (y := nI (b + 1)) (nI_add _ _) ?_
            refine lv_istore_n (pc := 51) hx hb d_X_read_51 rfl hl (by decide) rfl (fun ls hl => ?_)
            have hl : lv_has ls 3 [(1, .int (nI (b + 1))), (0, .ref (g 0)), (2, .int (nI b))] := hl
            refine lv_iinc (pc := 52) (k := 2) (v := nI (b + 1)) hx hb d_X_read_52 hl rfl (nI_i1 b) (by decide) rfl (fun ls hl => ?_)
            have hl : lv_has ls 3 [(2, .int (nI (b + 1))), (1, .int (nI (b + 1))), (0, .ref (g 0))] := hl
            refine lv_goto (pc := 55) (tgt := 9) hx hb d_X_read_55 (by decide) ?_
            exact ih (b + 1) (b + 1) tp2 sg2 ln2 (dn ++ [twd f (a, b)]) _ _ _ (by omega) (lv_sub hl [2, 1, 0] rfl) (by rw [List.length_append, List.length_singleton]; exact hw) (Nat.le_refl _) (by omega) (fun _ => rfl) (fun i q1 q2 => by rw [hfr i (by omega)]; exact h3 i (by omega) q2) (tok_push h4 (twd_wrt hwr (fun i q1 q2 => h3 i q1 (by omega)))) (by rw [← h5, List.map_append, List.append_assoc]; rfl)
        · refine lv_aload_n (pc := 25) hx hb d_X_read_25 rfl (lv_at hl 0 rfl) ?_
          refine xg_tp (pc := 26) hC hw d_X_read_26 ?_
          refine lv_iload_n (pc := 29) hx hb d_X_read_29 rfl (lv_at hl 2 rfl) ?_
          refine xl_tp (pc := 30) (i := b) (by omega) hC hw d_X_read_30 ?_
          refine g_top (y := f b) (h3 b h1 (by omega)) ?_
          refine g_calls (pc := 31) (as := [.int (f b)]) (rest := []) hC hw (c_X_isSign l D (f b)) lm_X_isSign f_X_isSign rfl rfl ⟨by decide, by decide⟩ hl.1 (Nat.le_of_ble_eq_true rfl) d_X_read_31 (fun H locs hw => ?_)
          refine lv_if_ne (pc := 34) (tgt := 52) hx hb d_X_read_34 (by decide) (fun hc34 => ?_) (fun hc34 => ?_)
          · rw [show n - b = (n - (b + 1)) + 1 by omega, scn_in (q := fun i => sgn (f i)) (bI_1 hc34)] at h5
            refine lv_iinc (pc := 52) (k := 2) (v := nI (b + 1)) hx hb d_X_read_52 hl rfl (nI_i1 b) (by decide) rfl (fun ls hl => ?_)
            have hl : lv_has ls 3 [(2, .int (nI (b + 1))), (0, .ref (g 0)), (1, .int (nI a))] := hl
            refine lv_goto (pc := 55) (tgt := 9) hx hb d_X_read_55 (by decide) ?_
            exact ih a (b + 1) tp1 sg1 ln1 dn _ _ _ (by omega) (lv_sub hl [1, 2, 0] rfl) hw (by omega) (by omega) (by omega) h3 h4 h5
          · have hbd := scn_bd (q := fun i => sgn (f i)) (n := n) (b := b) (a := a) (Or.inr ⟨by omega, by rw [bI_0 hc34]; decide⟩)
            rw [hbd] at h5
            refine lv_iload_n (pc := 37) hx hb d_X_read_37 rfl (lv_at hl 1 rfl) ?_
            refine lv_iload_n (pc := 38) hx hb d_X_read_38 rfl (lv_at hl 2 rfl) ?_
            refine nc_ge (pc := 39) (tgt := 48) hx hb d_X_read_39 (by decide) (by omega) (by omega) (fun hc39 => ?_) (fun hc39 => ?_)
            · rw [if_neg (Nat.not_lt.mpr hc39), List.nil_append] at h5
              refine lv_iload_n (pc := 48) hx hb d_X_read_48 rfl (lv_at hl 2 rfl) ?_
              refine lv_iconst (pc := 49) (v := nI 1) hx hb d_X_read_49 (by decide) ?_
              refine lv_iadd (pc := 50) hx hb d_X_read_50 ?_
              refine g_top (y := nI (b + 1)) (nI_add _ _) ?_
              refine lv_istore_n (pc := 51) hx hb d_X_read_51 rfl hl (by decide) rfl (fun ls hl => ?_)
              have hl : lv_has ls 3 [(1, .int (nI (b + 1))), (0, .ref (g 0)), (2, .int (nI b))] := hl
              refine lv_iinc (pc := 52) (k := 2) (v := nI (b + 1)) hx hb d_X_read_52 hl rfl (nI_i1 b) (by decide) rfl (fun ls hl => ?_)
              have hl : lv_has ls 3 [(2, .int (nI (b + 1))), (1, .int (nI (b + 1))), (0, .ref (g 0))] := hl
              refine lv_goto (pc := 55) (tgt := 9) hx hb d_X_read_55 (by decide) ?_
              exact ih (b + 1) (b + 1) tp1 sg1 ln1 dn _ _ _ (by omega) (lv_sub hl [2, 1, 0] rfl) hw (Nat.le_refl _) (by omega) (fun _ => rfl) (fun i q1 q2 => h3 i (by omega) q2) (h4) (h5)
            · rw [if_pos hc39] at h5
              have hln := congrArg List.length h5
              rw [List.length_append, List.length_map, List.length_append, List.length_singleton] at hln
              have hmx := rdT_len (f := f) h
              refine lv_aload_n (pc := 42) hx hb d_X_read_42 rfl (lv_at hl 0 rfl) ?_
              refine lv_iload_n (pc := 43) hx hb d_X_read_43 rfl (lv_at hl 1 rfl) ?_
              refine lv_iload_n (pc := 44) hx hb d_X_read_44 rfl (lv_at hl 2 rfl) ?_
              refine g_callv (pc := 45) (as := [.int (nI a), .int (nI b)]) (rest := []) hC hw (c_X_addTerm l D g k tp1 _ sg1 ln1 ds (c := dn.length) (a := a) (b := b) (by omega) h1 (by omega) (fun i q1 q2 => by rw [h3 i q1 (by omega)]; exact (hf i (by omega)).2)) lm_X_addTerm f_X_addTerm rfl rfl rfl rfl ⟨by decide, by decide⟩ hl.1 (Nat.le_of_ble_eq_true rfl) d_X_read_45 (fun u1 H locs hp hw => ?_)
              obtain ⟨tp2, sg2, ln2, rfl, hwr, hfr⟩ := hp
              refine lv_iload_n (pc := 48) hx hb d_X_read_48 rfl (lv_at hl 2 rfl) ?_
              refine lv_iconst (pc := 49) (v := nI 1) hx hb d_X_read_49 (by decide) ?_
              refine lv_iadd (pc := 50) hx hb d_X_read_50 ?_
              refine g_top (y := nI (b + 1)) (nI_add _ _) ?_
              refine lv_istore_n (pc := 51) hx hb d_X_read_51 rfl hl (by decide) rfl (fun ls hl => ?_)
              have hl : lv_has ls 3 [(1, .int (nI (b + 1))), (0, .ref (g 0)), (2, .int (nI b))] := hl
              refine lv_iinc (pc := 52) (k := 2) (v := nI (b + 1)) hx hb d_X_read_52 hl rfl (nI_i1 b) (by decide) rfl (fun ls hl => ?_)
              have hl : lv_has ls 3 [(2, .int (nI (b + 1))), (1, .int (nI (b + 1))), (0, .ref (g 0))] := hl
              refine lv_goto (pc := 55) (tgt := 9) hx hb d_X_read_55 (by decide) ?_
              exact ih (b + 1) (b + 1) tp2 sg2 ln2 (dn ++ [twd f (a, b)]) _ _ _ (by omega) (lv_sub hl [2, 1, 0] rfl) (by rw [List.length_append, List.length_singleton]; exact hw) (Nat.le_refl _) (by omega) (fun _ => rfl) (fun i q1 q2 => by rw [hfr i (by omega)]; exact h3 i (by omega) q2) (tok_push h4 (twd_wrt hwr (fun i q1 q2 => h3 i q1 (by omega)))) (by rw [← h5, List.map_append, List.append_assoc]; rfl)
  exact lp (n + 2) 0 0 tp sg ln [] _ _ _ (by omega) (lv_sub hl [2, 1, 0] rfl) hw (Nat.le_refl _) (Nat.zero_le _) (fun q => absurd q (by omega)) (fun i _ q => (hf i q).1) tok_nil rfl
theorem nb_bI (x : Bool) : narrow .boolean (.int (bI x)) = .int (bI x) := by cases x <;> rfl
theorem isW_congr {w v : Nat → Int32} {n : Nat} (h : ∀ i, i < n → w i = v i) : isW w n = isW v n := by
  cases e : isW v n with
  | true =>
    obtain ⟨h0, h1⟩ := isW_of e
    exact isW_y h0 (fun i hi => by rw [h i hi]; exact h1 i hi)
  | false =>
    cases e2 : isW w n with
    | false => rfl
    | true =>
      obtain ⟨h0, h1⟩ := isW_of e2
      rw [isW_y h0 (fun i hi => by rw [← h i hi]; exact h1 i hi)] at e
      exact e
theorem z_add (tp : Nat → Int32) : (fun i => tp (0 + i)) = tp := funext fun i => by rw [Nat.zero_add]
set_option maxHeartbeats 4000000 in
set_option maxRecDepth 100000 in
theorem c_X_takeTapeTerm (l : Launch) (D : va_G) (g : Nat → Nat) (k : Nat → ClassId) (tp : Nat → Int32) (sg ln : Nat → Int32) (tc : Int32) (ds : Nat → Int32) {n : Nat} {f : Nat → Int32} (h : n ≤ 300) (hf : ∀ i, i < n → tp i = f i ∧ by_ok (f i)) : gMi l y_X_takeTapeTerm (gW y_X_takeTapeTerm b_X_takeTapeTerm 2 (some .boolean)) (gR 4) D (xT k) (xw g k) [.ref (g 0)] (tp, (nI n), sg, ln, tc, ds) (fun r u => (isW f n = true ∧ r = 1 ∧ ∃ tp1 sg1 ln1, u = (tp1, nI 0, sg1, ln1, tc, ds) ∧ wrt sg ln sg1 ln1 150 (stm f n)) ∨ (isW f n = false ∧ r = 0 ∧ u = (tp, nI 0, sg, ln, tc, ds))) := by
  refine g_starti (by decide) (Nat.le_of_ble_eq_true rfl) ?_
  intro p ev s m args below meth cd A Q ls hC hQ hl hw
  have hx := hC.1.1
  have hb := hC.1.2.1
  have hl : lv_has ls 2 [(0, .ref (g 0))] := hl
  have hW := isW_congr (fun i hi => (hf i hi).1)
  have hst := stm_ext (w := tp) (v := f) (n := n) (fun i hi => (hf i hi).1)
  refine lv_aload_n (pc := 0) hx hb d_X_takeTapeTerm_0 rfl (lv_at hl 0 rfl) ?_
  refine g_calli (pc := 1) (as := []) (rest := []) hC hw (c_X_tapeIsWord l D g k tp sg ln tc ds h) lm_X_tapeIsWord f_X_tapeIsWord rfl rfl rfl rfl ⟨by decide, by decide⟩ hl.1 (Nat.le_of_ble_eq_true rfl) d_X_takeTapeTerm_1 (fun r u1 H locs hp hw => ?_)
  obtain ⟨rfl, rfl⟩ := hp
  refine g_top (y := bI (isW f n)) (by rw [hW]) ?_
  refine lv_istore_n (pc := 4) hx hb d_X_takeTapeTerm_4 rfl hl (by decide) rfl (fun ls hl => ?_)
  have hl : lv_has ls 2 [(1, .int (bI (isW f n))), (0, .ref (g 0))] := hl
  refine lv_iload_n (pc := 5) hx hb d_X_takeTapeTerm_5 rfl (lv_at hl 0 rfl) ?_
  refine lv_if_eq (pc := 6) (tgt := 21) hx hb d_X_takeTapeTerm_6 (by decide) (fun hc6 => ?_) (fun hc6 => ?_)
  · refine lv_aload_n (pc := 21) hx hb d_X_takeTapeTerm_21 rfl (lv_at hl 1 rfl) ?_
    refine lv_iconst (pc := 22) (v := nI 0) hx hb d_X_takeTapeTerm_22 (by decide) ?_
    refine xp_tl (pc := 23) hC hw d_X_takeTapeTerm_23 (fun H locs hw => ?_)
    have hw : gH D (xw g k) A _ (tp, (nI 0), sg, ln, tc, ds) H locs := hw
    refine lv_iload_n (pc := 26) hx hb d_X_takeTapeTerm_26 rfl (lv_at hl 0 rfl) ?_
    exact hQ _ _ _ _ _ _ hw (nb_bI _) (Or.inr ⟨bI_0 hc6, hc6, rfl⟩) d_X_takeTapeTerm_27
  · have hy := bI_1 hc6
    refine lv_aload_n (pc := 9) hx hb d_X_takeTapeTerm_9 rfl (lv_at hl 1 rfl) ?_
    refine lv_sipush (pc := 10) (v := nI 150) hx hb d_X_takeTapeTerm_10 (by decide) ?_
    refine lv_iconst (pc := 13) (v := nI 0) hx hb d_X_takeTapeTerm_13 (by decide) ?_
    refine lv_aload_n (pc := 14) hx hb d_X_takeTapeTerm_14 rfl (lv_at hl 1 rfl) ?_
    refine xg_tl (pc := 15) hC hw d_X_takeTapeTerm_15 ?_
    refine g_callv (pc := 18) (as := [.int (nI 150), .int (nI 0), .int (nI n)]) (rest := []) hC hw (c_X_writeTerm l D g k tp _ sg ln tc ds (j := 150) (a := 0) (b := n) (by omega) (Nat.zero_le _) h (fun i _ q => by rw [(hf i q).1]; exact (hf i q).2)) lm_X_writeTerm f_X_writeTerm rfl rfl rfl rfl ⟨by decide, by decide⟩ hl.1 (Nat.le_of_ble_eq_true rfl) d_X_takeTapeTerm_18 (fun u1 H locs hp hw => ?_)
    obtain ⟨tp1, sg1, ln1, rfl, hwr, hfr⟩ := hp
    rw [z_add] at hwr
    have hwr := wrt_ext hwr hst.1 hst.2
    refine lv_aload_n (pc := 21) hx hb d_X_takeTapeTerm_21 rfl (lv_at hl 1 rfl) ?_
    refine lv_iconst (pc := 22) (v := nI 0) hx hb d_X_takeTapeTerm_22 (by decide) ?_
    refine xp_tl (pc := 23) hC hw d_X_takeTapeTerm_23 (fun H locs hw => ?_)
    have hw : gH D (xw g k) A _ (tp1, (nI 0), sg1, ln1, tc, ds) H locs := hw
    refine lv_iload_n (pc := 26) hx hb d_X_takeTapeTerm_26 rfl (lv_at hl 0 rfl) ?_
    exact hQ _ _ _ _ _ _ hw (nb_bI _) (Or.inl ⟨hy, by rw [hy]; rfl, tp1, sg1, ln1, rfl, hwr⟩) d_X_takeTapeTerm_27
