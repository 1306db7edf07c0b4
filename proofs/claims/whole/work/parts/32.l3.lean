set_option maxHeartbeats 8000000 in
set_option maxRecDepth 100000 in
/-- YOUR PART: from the entry, for every script of at most 3072 ints, the law comes to its end with true -/
theorem whole_start {p : Program} {e : Env} {s : State} {m : MethodId} {below : List Frame} {meth : Method} {c : Code} (l : Launch) {b L : Nat} {xs : Nat → Int32} (hL : L ≤ 3072) (C0 : lw_At p s m meth c b L xs) : W p l e room_1 s m #[Value.ref b] below meth c s.heap [] 0 0 (lw_Z below #[Value.ref b] s) (entryFrame m ([Value.ref b] : List Value).toArray 4) := by
  obtain ⟨hx, hb, hr, hml, hown, hts, hX, hbl, hlk, -⟩ := C0
  have hts : ∀ w ∈ gT, w.before #[Value.ref b] s = true := fun w hw => hts w (List.mem_filter.mp hw).1
  obtain ⟨cX, iX, hKX⟩ := u_known (C := R_X) (T := F_X) (N := 6) hts hin_X (hts _ i_inst_X)
  obtain ⟨cM, iM, hKM⟩ := u_known (C := R_M) (T := F_M) (N := 8) hts hin_M (hts _ i_inst_M)
  obtain ⟨D, hK⟩ : ∃ D : va_G, va_K D classes [] s := by
    refine ⟨(fun q => if q = 0 then cX else cM, fun q => if q = 0 then iX else iM), fun q r hq => ?_, fun q r hq => by simp at hq⟩
    have hq2 := (List.getElem?_eq_some_iff.mp hq).1
    have hq3 : q = 0 ∨ q = 1 := by
      have : classes.length = 2 := rfl
      omega
    rcases hq3 with rfl | rfl
    · cases hq
      exact hKX
    · cases hq
      exact hKM
  obtain ⟨A, hAd⟩ : ∃ A : Nat → Prop, A = fun q => s.heap.size ≤ q := ⟨_, rfl⟩
  have hA : ∀ q, s.heap.size ≤ q → A q := fun q h => by rw [hAd]; exact h
  have hAb : ∀ q, A q → s.heap.size ≤ q := fun q h => by rw [hAd] at h; exact h
  have hbA : ¬ A b := fun h => absurd (hAb b h) (Nat.not_le.mpr hbl)
  have hP : va_P D classes [] s.heap := fun q r h => by simp at h
  have hD : va_D A [] := ⟨fun q r a c h => by simp at h, fun q r h => by simp at h⟩
  have hS : va_S A s.heap s.heap [] := va_S.rf
  have hl := lv_entry ([.ref b]) (n := 4) (Nat.le_of_ble_eq_true rfl)
  rw [lg_entry_eq]
  generalize (lg_sl ([Value.ref b]) ++ List.replicate (4 - (lg_sl ([Value.ref b])).length) Slot.unset).toArray = ls at hl ⊢
  have hl : lv_has ls 4 [(0, .ref b)] := hl
  refine va_new (pc := 0) (D := D) (cl := classes) (ci := 0) (fs := [.null, .int 0, .null, .null, .int 0, .null]) (C := R_X) (T := F_X) (N := 6) hx hb hts hin_X t_X t_X_ok hown (hts _ i_clink_X) (hts _ i_inst_X) (hts _ i_init_X) hK hP hD hS hA rfl (fun j hj => by rcases (show j = 0 ∨ j = 1 ∨ j = 2 ∨ j = 3 ∨ j = 4 ∨ j = 5 by omega) with rfl | rfl | rfl | rfl | rfl | rfl <;> rfl) (by decide) (by decide) d_L_law_0 (fun q0 H hP hD hS => ?_)
  have hP : va_P D classes [(q0, .inr (0, [.null, .int 0, .null, .null, .int 0, .null]))] H := hP
  have hD : va_D A [(q0, .inr (0, [.null, .int 0, .null, .null, .int 0, .null]))] := hD
  refine lv_dup (pc := 3) hx hb d_L_law_3 rfl ?_
  have hPc := hP.sub (ws' := [(q0, .inr (0, [.null, .int 0, .null, .null, .int 0, .null]))]) [0] rfl
  have hDc := hD.sub (ws' := [(q0, .inr (0, [.null, .int 0, .null, .null, .int 0, .null]))]) [0] (by decide) rfl
  have hKc := hK.sub (tys' := []) [] rfl
  have hFc := va_free (wc := [(q0, .inr (0, [.null, .int 0, .null, .null, .int 0, .null]))]) hD hS hA [0] rfl
  refine va_callv (va_runI (As := []) (rest := [.ref q0]) ⟨hx, hb, hml, hown, hts⟩ (c_X_init l D q0 _) (cwI 0 hts (g_good (gW_in i_code_X_init)) rfl rfl rfl (hts _ i_init_X) (hts _ lm_L_X_init) (hts _ i_im_X_init) rfl (by decide +kernel) ⟨by decide, by decide⟩) ⟨fun a U g mk q => by obtain ⟨q0, q1, qP, qK, qD⟩ := q; exact ⟨q0, q1, qP, va_K.moved (u := U) (U := U.calling g mk a) (Vm.Alike.refl U.vm) qK, qD⟩, fun U hU hW => ⟨rfl, by rw [hU], by rw [hU]; exact hPc, va_K.moved hW.alike hKc, hDc.weaken (fun _ _ _ _ => trivial)⟩⟩ rfl rfl hl.1 rfl (lv_room (Nat.le_of_ble_eq_true rfl)) d_L_law_4 ⟨by decide, by decide⟩) hS (fun q _ h => hFc q h) hFc (fun u t H1 locs ht hvm hp hB hz1 hk1 hS5 => ?_)
  obtain ⟨g, k, hg, hP1, hK1, hD1⟩ := hB
  rw [ht] at hP1
  have hK1 := va_K.moved hvm.symm hK1
  obtain ⟨hP2, hD2⟩ := va_join (wr := []) (w1 := xw g k (fun _ => 0, nI 0, fun _ => 0, fun _ => 0, nI 0, fun _ => 0)) hP hD [0] [] rfl rfl (by decide) (by decide) hk1 hFc hP1 hD1
  have hK : va_K D classes (xT k) s := hK1
  subst hg
  have hS := hS5
  have hP : va_P D classes (xw g k (fun _ => 0, nI 0, fun _ => 0, fun _ => 0, nI 0, fun _ => 0)) H1 := hP2
  have hD : va_D A (xw g k (fun _ => 0, nI 0, fun _ => 0, fun _ => 0, nI 0, fun _ => 0)) := hD2
  refine lv_astore_n (pc := 7) hx hb d_L_law_7 rfl hl (by decide) rfl (fun ls hl => ?_)
  have hl : lv_has ls 4 [(1, .ref (g 0)), (0, .ref b)] := hl
  refine va_new (pc := 8) (D := D) (cl := classes) (ci := 1) (fs := [.null, .int 0, .null, .null, .int 0, .null, .int 0, .null]) (C := R_M) (T := F_M) (N := 8) hx hb hts hin_M t_M t_M_ok hown (hts _ i_clink_M) (hts _ i_inst_M) (hts _ i_init_M) hK hP hD hS hA rfl (fun j hj => by rcases (show j = 0 ∨ j = 1 ∨ j = 2 ∨ j = 3 ∨ j = 4 ∨ j = 5 ∨ j = 6 ∨ j = 7 by omega) with rfl | rfl | rfl | rfl | rfl | rfl | rfl | rfl <;> rfl) (by decide) (by decide) d_L_law_8 (fun q8 H hP hD hS => ?_)
  have hP : va_P D classes (xw g k (fun _ => 0, nI 0, fun _ => 0, fun _ => 0, nI 0, fun _ => 0) ++ [(q8, .inr (1, [.null, .int 0, .null, .null, .int 0, .null, .int 0, .null]))]) H := hP
  have hD : va_D A (xw g k (fun _ => 0, nI 0, fun _ => 0, fun _ => 0, nI 0, fun _ => 0) ++ [(q8, .inr (1, [.null, .int 0, .null, .null, .int 0, .null, .int 0, .null]))]) := hD
  refine lv_dup (pc := 11) hx hb d_L_law_11 rfl ?_
  have hPc := hP.sub (ws' := [(q8, .inr (1, [.null, .int 0, .null, .null, .int 0, .null, .int 0, .null]))]) [5] rfl
  have hDc := hD.sub (ws' := [(q8, .inr (1, [.null, .int 0, .null, .null, .int 0, .null, .int 0, .null]))]) [5] (by decide) rfl
  have hKc := hK.sub (tys' := []) [] rfl
  have hFc := va_free (wc := [(q8, .inr (1, [.null, .int 0, .null, .null, .int 0, .null, .int 0, .null]))]) hD hS hA [5] rfl
  refine va_callv (va_runI (As := []) (rest := [.ref q8]) ⟨hx, hb, hml, hown, hts⟩ (c_M_init l D q8 _) (cwI 0 hts (g_good (gW_in i_code_M_init)) rfl rfl rfl (hts _ i_init_M) (hts _ lm_L_M_init) (hts _ i_im_M_init) rfl (by decide +kernel) ⟨by decide, by decide⟩) ⟨fun a U g mk q => by obtain ⟨q0, q1, qP, qK, qD⟩ := q; exact ⟨q0, q1, qP, va_K.moved (u := U) (U := U.calling g mk a) (Vm.Alike.refl U.vm) qK, qD⟩, fun U hU hW => ⟨rfl, by rw [hU], by rw [hU]; exact hPc, va_K.moved hW.alike hKc, hDc.weaken (fun _ _ _ _ => trivial)⟩⟩ rfl rfl hl.1 rfl (lv_room (Nat.le_of_ble_eq_true rfl)) d_L_law_12 ⟨by decide, by decide⟩) hS (fun q _ h => hFc q h) hFc (fun u t H1 locs ht hvm hp hB hz1 hk1 hS5 => ?_)
  obtain ⟨g2, k2, hg, hP1, hK1, hD1⟩ := hB
  rw [ht] at hP1
  have hK1 := va_K.moved hvm.symm hK1
  obtain ⟨hP3, hD3⟩ := va_join (wr := xw g k (fun _ => 0, nI 0, fun _ => 0, fun _ => 0, nI 0, fun _ => 0)) (w1 := mw g2 k2 (fun _ => 0, nI 0, fun _ => 0, fun _ => 0, nI 0, fun _ => 0, nI 0, fun _ => 0)) hP hD [5] [0, 1, 2, 3, 4] rfl rfl (by decide) (by decide) hk1 hFc hP1 hD1
  have hK : va_K D classes (xT k ++ mT k2) s := hK.app hK1
  subst hg
  refine lv_astore_n (pc := 15) hx hb d_L_law_15 rfl hl (by decide) rfl (fun ls hl => ?_)
  have hl : lv_has ls 4 [(2, .ref (g2 0)), (1, .ref (g 0)), (0, .ref b)] := hl
  refine lv_iconst (pc := 16) (v := nI 0) hx hb d_L_law_16 (by decide) ?_
  refine lv_istore_n (pc := 17) hx hb d_L_law_17 rfl hl (by decide) rfl (fun ls hl => ?_)
  have hl : lv_has ls 4 [(3, .int (nI 0)), (2, .ref (g2 0)), (1, .ref (g 0)), (0, .ref b)] := hl
  refine W.widen (k := 11) (n := 9114) (by decide) (by decide) ?_
  exact l_loop l hL hx hb hr hml hown hts hX hbl hlk hK hA hAb hbA (L + 7) 0 0 [] _ _ _ _ _ _ _ _ _ _ _ _ _ (by omega) (lv_sub hl [3, 2, 1, 0] rfl) hP3 hD3 hS5 (by omega) (Nat.zero_le _) (Nat.zero_le _) l_tp0 tok_nil tok_nil
