/-! pure words: bytes, words, terms, their order and distance -/
def by_ok (b : Int32) : Prop := b.toInt8.toInt32 = b
def sm (b : Int32) : Int32 := if 65 ≤ b ∧ b ≤ 90 then b + 32 else b
def sgn (b : Int32) : Bool := decide ((48 ≤ b ∧ b ≤ 57) ∨ (97 ≤ b ∧ b ≤ 122))
def ltr (b : Int32) : Bool := decide ((48 ≤ b ∧ b ≤ 57) ∨ (65 ≤ b ∧ b ≤ 90) ∨ (97 ≤ b ∧ b ≤ 122))
def bI (x : Bool) : Int32 := if x = true then 1 else 0
theorem by_8 (z : Int32) : by_ok z.toInt8.toInt32 := by
  unfold by_ok
  simp
theorem by_all {P : Int32 → Prop} (h : ∀ n : Nat, n < 256 → P (Int8.ofNat n).toInt32) {b : Int32} (hb : by_ok b) : P b := by
  have e : Int8.ofNat b.toInt8.toBitVec.toNat = b.toInt8 := by
    apply Int8.toBitVec_inj.mp
    apply BitVec.eq_of_toNat_eq
    show (BitVec.ofNat 8 _).toNat = _
    rw [BitVec.toNat_ofNat]
    exact Nat.mod_eq_of_lt b.toInt8.toBitVec.isLt
  have k := h b.toInt8.toBitVec.toNat b.toInt8.toBitVec.isLt
  rw [e, hb] at k
  exact k
theorem by_sm {b : Int32} (hb : by_ok b) : by_ok (sm b) := by_all (P := fun b => (sm b).toInt8.toInt32 = sm b) (by decide +kernel) hb
theorem sgn_sm {b : Int32} (hb : by_ok b) : sgn (sm b) = ltr b := by_all (P := fun b => sgn (sm b) = ltr b) (by decide +kernel) hb
theorem sm_up {b : Int32} (hb : by_ok b) (h1 : 65 ≤ b) (h2 : b ≤ 90) : (b - 65 + 97).toInt8.toInt32 = sm b := by_all (P := fun b => 65 ≤ b → b ≤ 90 → (b - 65 + 97).toInt8.toInt32 = sm b) (by decide +kernel) hb h1 h2
theorem sm_up2 {b : Int32} (hb : by_ok b) (h1 : 65 ≤ b) (h2 : b ≤ 90) : (b + 32).toInt8.toInt32 = sm b := by_all (P := fun b => 65 ≤ b → b ≤ 90 → (b + 32).toInt8.toInt32 = sm b) (by decide +kernel) hb h1 h2
theorem sm_no {b : Int32} (h : ¬ (65 ≤ b ∧ b ≤ 90)) : sm b = b := if_neg h
theorem by_fit {b : Int32} (hb : by_ok b) : fits .byte (.int b) = true := by
  have h := pk_fb b
  rw [hb] at h
  exact h
theorem by_nar {b : Int32} (hb : by_ok b) : narrow .byte (.int b) = .int b := by
  have h := pk_nb b
  rw [hb] at h
  exact h
/-! bits (s_l, s_u, b_ushr, b_sshr of the pasted family) -/
def bt (x : Int32) (i : Nat) : Bool := x.toBitVec.getLsbD i
theorem s_l : ∀ n, n < 32 → ((nI n &&& 31).toBitVec.smod 32).toNat = n := by decide +kernel
theorem s_u : ∀ n, n < 32 → (((nI n).toUInt32 &&& Int32.toUInt32 31).toBitVec % 32).toNat = n := by decide +kernel
theorem b_ushr (n : Nat) (hn : n < 32) (x : Int32) (i : Nat) : bt ((x.toUInt32 >>> ((nI n).toUInt32 &&& Int32.toUInt32 31)).toInt32) i = bt x (n + i) := by
  show (x.toUInt32 >>> ((nI n).toUInt32 &&& Int32.toUInt32 31)).toBitVec.getLsbD i = x.toUInt32.toBitVec.getLsbD (n + i)
  rw [UInt32.toBitVec_shiftRight]
  show (x.toUInt32.toBitVec >>> (((nI n).toUInt32 &&& Int32.toUInt32 31).toBitVec % 32).toNat).getLsbD i = _
  rw [s_u n hn, BitVec.getLsbD_ushiftRight]
theorem b_sshr (n : Nat) (hn : n < 32) (x : Int32) {i : Nat} (hi : i < 32) : bt (x >>> (nI n &&& 31)) i = if n + i < 32 then bt x (n + i) else bt x 31 := by
  unfold bt
  rw [Int32.toBitVec_shiftRight]
  show (x.toBitVec.sshiftRight ((nI n &&& 31).toBitVec.smod 32).toNat).getLsbD i = _
  rw [s_l n hn, BitVec.getLsbD_sshiftRight, BitVec.msb_eq_getLsbD_last]
  simp [hi]
/-- the byte that lies n bits up -/
def bq (w : Int32) (n : Nat) : Int32 := (w >>> (nI n &&& 31)).toInt8.toInt32
theorem bq_ok (w : Int32) (n : Nat) : by_ok (bq w n) := by_8 _
theorem bq_u (w : Int32) (n : Nat) (hn : n + 8 ≤ 32) : ((w.toUInt32 >>> ((nI n).toUInt32 &&& Int32.toUInt32 31)).toInt32).toInt8.toInt32 = bq w n := by
  unfold bq
  congr 1
  apply Int8.toBitVec_inj.mp
  apply BitVec.eq_of_getLsbD_eq
  intro i hi
  have h1 := b_ushr n (by omega) w i
  have h2 := b_sshr n (by omega) w (i := i) (by omega)
  rw [if_pos (by omega)] at h2
  have h3 := h1.trans h2.symm
  unfold bt at h3
  rw [Int32.toBitVec_toInt8, Int32.toBitVec_toInt8, BitVec.getLsbD_signExtend, BitVec.getLsbD_signExtend, if_pos (by omega), if_pos (by omega), h3]
/-- four bytes and twenty onto a tape -/
def p4 (f : Int32 → Int32) (t : Nat → Int32) (n : Nat) (w : Int32) : Nat → Int32 := upd (upd (upd (upd t n (f (bq w 24))) (n + 1) (f (bq w 16))) (n + 1 + 1) (f (bq w 8))) (n + 1 + 1 + 1) (f (bq w 0))
def p20 (f : Int32 → Int32) (t : Nat → Int32) (n : Nat) (a b c d e : Int32) : Nat → Int32 := p4 f (p4 f (p4 f (p4 f (p4 f t n a) (n + 4) b) (n + 4 + 4) c) (n + 4 + 4 + 4) d) (n + 4 + 4 + 4 + 4) e
/-- what two tapes have in common up to n -/
def tpr (x t : Nat → Int32) (n : Nat) : Prop := ∀ i, i < n → by_ok (t i) ∧ x i = sm (t i)
theorem upd_rel {x t : Nat → Int32} {n : Nat} {v : Int32} (h : tpr x t n) (hv : by_ok v) : tpr (upd x n (sm v)) (upd t n v) (n + 1) := by
  intro i hi
  by_cases e : i = n
  · subst e
    rw [pk_us, pk_us]
    exact ⟨hv, rfl⟩
  · rw [pk_un e, pk_un e]
    exact h i (by omega)
theorem p4_rel {x t : Nat → Int32} {n : Nat} (w : Int32) (h : tpr x t n) : tpr (p4 sm x n w) (p4 (fun b => b) t n w) (n + 4) := by
  unfold p4
  exact upd_rel (upd_rel (upd_rel (upd_rel h (bq_ok _ _)) (bq_ok _ _)) (bq_ok _ _)) (bq_ok _ _)
theorem p20_rel {x t : Nat → Int32} {n : Nat} (a b c d e : Int32) (h : tpr x t n) : tpr (p20 sm x n a b c d e) (p20 (fun b => b) t n a b c d e) (n + 20) := by
  unfold p20
  exact p4_rel e (p4_rel d (p4_rel c (p4_rel b (p4_rel a h))))
/-! terms -/
abbrev Tm : Type := Nat × (Nat → Int32)
def ies (w : Nat → Int32) (n : Nat) : Bool := decide (5 ≤ n ∧ w (n - 1) = 115 ∧ w (n - 2) = 101 ∧ w (n - 3) = 105)
def los (w : Nat → Int32) (n : Nat) : Bool := decide (4 ≤ n ∧ w (n - 1) = 115 ∧ w (n - 2) ≠ 115 ∧ w (n - 2) ≠ 117)
def pln (w : Nat → Int32) (n : Nat) : Tm := (min n 24, w)
def stm (w : Nat → Int32) (n : Nat) : Tm := if ies w n = true then pln (fun i => if i = n - 3 then 121 else w i) (n - 2) else if los w n = true then pln w (n - 1) else pln w n
def tat (sg ln : Nat → Int32) (k : Nat) (T : Tm) : Prop := T.1 ≤ 24 ∧ ln k = nI T.1 ∧ ∀ i, i < T.1 → sg (24 * k + i) = T.2 i
def tok (ts : List Tm) (sg ln : Nat → Int32) : Prop := ∀ (k : Nat) (T : Tm), ts[k]? = some T → tat sg ln k T
/-- a term has been written into slot k -/
def wrt (sg ln sg' ln' : Nat → Int32) (k : Nat) (T : Tm) : Prop := T.1 ≤ 24 ∧ ln' = upd ln k (nI T.1) ∧ (∀ i, i < T.1 → sg' (24 * k + i) = T.2 i) ∧ ∀ j, (j < 24 * k ∨ 24 * k + 24 ≤ j) → sg' j = sg j
theorem wrt_at {sg ln sg' ln' : Nat → Int32} {k : Nat} {T : Tm} (h : wrt sg ln sg' ln' k T) : tat sg' ln' k T := by
  obtain ⟨h1, h2, h3, -⟩ := h
  exact ⟨h1, by rw [h2, pk_us], h3⟩
theorem wrt_keep {sg ln sg' ln' : Nat → Int32} {k j : Nat} {T U : Tm} (h : wrt sg ln sg' ln' k T) (hj : j ≠ k) (hU : tat sg ln j U) : tat sg' ln' j U := by
  obtain ⟨-, h2, -, h4⟩ := h
  obtain ⟨g1, g2, g3⟩ := hU
  refine ⟨g1, by rw [h2, pk_un hj]; exact g2, fun i hi => ?_⟩
  rw [h4 _ (by omega)]
  exact g3 i hi
theorem tok_keep {ts : List Tm} {sg ln sg' ln' : Nat → Int32} {k : Nat} {T : Tm} (h : tok ts sg ln) (hw : wrt sg ln sg' ln' k T) (hk : ts.length ≤ k) : tok ts sg' ln' := fun j U hU => wrt_keep hw (by
  have := (List.getElem?_eq_some_iff.mp hU).1
  omega) (h j U hU)
theorem tok_push {ts : List Tm} {sg ln sg' ln' : Nat → Int32} {T : Tm} (h : tok ts sg ln) (hw : wrt sg ln sg' ln' ts.length T) : tok (ts ++ [T]) sg' ln' := by
  intro j U hU
  by_cases hj : j < ts.length
  · rw [List.getElem?_append_left hj] at hU
    exact tok_keep h hw (Nat.le_refl _) j U hU
  · have hl := (List.getElem?_eq_some_iff.mp hU).1
    rw [List.length_append, List.length_singleton] at hl
    have e : j = ts.length := by omega
    subst e
    rw [List.getElem?_append_right (Nat.le_refl _), Nat.sub_self] at hU
    cases hU
    exact wrt_at hw
theorem tok_nil {sg ln : Nat → Int32} : tok [] sg ln := fun k T h => by simp at h
/-- a term that says the same as far as it goes -/
theorem wrt_ext {sg ln sg' ln' : Nat → Int32} {k : Nat} {T U : Tm} (h : wrt sg ln sg' ln' k T) (h1 : T.1 = U.1) (h2 : ∀ i, i < T.1 → T.2 i = U.2 i) : wrt sg ln sg' ln' k U := by
  obtain ⟨a1, a2, a3, a4⟩ := h
  exact ⟨h1 ▸ a1, by rw [a2, h1], fun i hi => by rw [a3 i (h1 ▸ hi)]; exact h2 i (h1 ▸ hi), a4⟩
theorem pln_le (w : Nat → Int32) (n : Nat) : (pln w n).1 ≤ 24 := Nat.min_le_right _ _
theorem stm_le (w : Nat → Int32) (n : Nat) : (stm w n).1 ≤ 24 := by
  unfold stm
  split
  · exact pln_le _ _
  · split
    · exact pln_le _ _
    · exact pln_le _ _
theorem pln_len (w : Nat → Int32) (n : Nat) : (pln w n).1 ≤ n := Nat.min_le_left _ _
theorem pln_ext {w v : Nat → Int32} {n : Nat} (h : ∀ i, i < n → w i = v i) : (pln w n).1 = (pln v n).1 ∧ ∀ i, i < (pln w n).1 → (pln w n).2 i = (pln v n).2 i :=
  ⟨rfl, fun i hi => h i (Nat.lt_of_lt_of_le hi (pln_len w n))⟩
theorem stm_ext {w v : Nat → Int32} {n : Nat} (h : ∀ i, i < n → w i = v i) : (stm w n).1 = (stm v n).1 ∧ ∀ i, i < (stm w n).1 → (stm w n).2 i = (stm v n).2 i := by
  have e1 : ies w n = ies v n := by
    unfold ies
    by_cases hn : 5 ≤ n
    · rw [h (n - 1) (by omega), h (n - 2) (by omega), h (n - 3) (by omega)]
    · simp [hn]
  have e2 : los w n = los v n := by
    unfold los
    by_cases hn : 4 ≤ n
    · rw [h (n - 1) (by omega), h (n - 2) (by omega)]
    · simp [hn]
  unfold stm
  rw [e1, e2]
  split
  · exact pln_ext (fun i hi => by
      by_cases hj : i = n - 3
      · simp [hj]
      · simp [hj, h i (by omega)])
  · split
    · exact pln_ext (fun i hi => h i (by omega))
    · exact pln_ext h
/-! words of a tape: the letters run from a to b, r places are left -/
def scn (q : Nat → Bool) : Nat → Nat → Nat → List (Nat × Nat)
  | 0, b, a => if a < b then [(a, b)] else []
  | r + 1, b, a => if q b = true then scn q r (b + 1) a else (if a < b then [(a, b)] else []) ++ scn q r (b + 1) (b + 1)
theorem scn_len (q : Nat → Bool) : ∀ (r b a : Nat), a ≤ b → 2 * (scn q r b a).length ≤ r + (b - a) + 1
  | 0, b, a, h => by
    unfold scn
    split
    · simp; omega
    · simp
  | r + 1, b, a, h => by
    unfold scn
    split
    · have := scn_len q r (b + 1) a (by omega)
      omega
    · have := scn_len q r (b + 1) (b + 1) (Nat.le_refl _)
      rw [List.length_append]
      split
      · simp; omega
      · simp; omega
theorem scn_in {q : Nat → Bool} {r b a : Nat} (h : q b = true) : scn q (r + 1) b a = scn q r (b + 1) a := by
  show (if q b = true then _ else _) = _
  rw [if_pos h]
theorem scn_out {q : Nat → Bool} {r b a : Nat} (h : ¬ q b = true) : scn q (r + 1) b a = (if a < b then [(a, b)] else []) ++ scn q r (b + 1) (b + 1) := by
  show (if q b = true then _ else _) = _
  rw [if_neg h]
theorem scn_skip {q : Nat → Bool} {r b : Nat} (h : ¬ q b = true) : scn q (r + 1) b b = scn q r (b + 1) (b + 1) := by
  rw [scn_out h, if_neg (Nat.lt_irrefl b), List.nil_append]
/-- letters from b to b + d -/
theorem scn_run {q : Nat → Bool} {r b a : Nat} : ∀ (d : Nat), (∀ i, b ≤ i → i < b + d → q i = true) → scn q (r + d) b a = scn q r (b + d) a
  | 0, _ => rfl
  | d + 1, h => by
    have h1 := scn_run (q := q) (r := r + 1) (b := b) (a := a) d (fun i h1 h2 => h i h1 (by omega))
    rw [show r + (d + 1) = r + 1 + d by omega, h1, scn_in (h (b + d) (by omega) (by omega))]
    rfl
/-- a whole word: from a to b, n the tape's length -/
theorem scn_word {q : Nat → Bool} {n a b : Nat} (hab : a < b) (hbn : b ≤ n) (h : ∀ i, a ≤ i → i < b → q i = true) (he : b = n ∨ ¬ q b = true) : scn q (n - a) a a = (a, b) :: scn q (n - b) b b := by
  have h1 := scn_run (q := q) (r := n - b) (b := a) (a := a) (b - a) (fun i x y => h i x (by omega))
  rw [show n - b + (b - a) = n - a by omega, show a + (b - a) = b by omega] at h1
  rw [h1]
  by_cases hb : b = n
  · rw [hb, Nat.sub_self]
    unfold scn
    rw [if_pos (by omega), if_neg (by omega)]
  · have hq : ¬ q b = true := he.resolve_left hb
    rw [show n - b = (n - b - 1) + 1 by omega, scn_out hq, if_pos hab, scn_skip hq]
    rfl
theorem scn_congr {q v : Nat → Bool} : ∀ (r b a : Nat), (∀ i, b ≤ i → i < b + r → q i = v i) → scn q r b a = scn v r b a
  | 0, b, a, _ => rfl
  | r + 1, b, a, h => by
    unfold scn
    rw [h b (Nat.le_refl _) (by omega), scn_congr r (b + 1) a (fun i x y => h i (by omega) (by omega)), scn_congr r (b + 1) (b + 1) (fun i x y => h i (by omega) (by omega))]
/-- the term of the letters from a to b -/
def twd (f : Nat → Int32) (q : Nat × Nat) : Tm := stm (fun i => f (q.1 + i)) (q.2 - q.1)
def rdT (f : Nat → Int32) (n : Nat) : List Tm := (scn (fun i => sgn (f i)) n 0 0).map (twd f)
theorem rdT_len {f : Nat → Int32} {n : Nat} (hn : n ≤ 300) : (rdT f n).length ≤ 150 := by
  have := scn_len (fun i => sgn (f i)) n 0 0 (Nat.le_refl _)
  unfold rdT
  rw [List.length_map]
  omega
/-- all letters, and one at least -/
def isW (f : Nat → Int32) (n : Nat) : Bool := decide (0 < n) && (List.range n).all (fun i => sgn (f i))
theorem isW_y {f : Nat → Int32} {n : Nat} (h0 : 0 < n) (h : ∀ i, i < n → sgn (f i) = true) : isW f n = true := by
  unfold isW
  rw [Bool.and_eq_true, List.all_eq_true]
  exact ⟨decide_eq_true h0, fun i hi => h i (List.mem_range.mp hi)⟩
theorem isW_0 {f : Nat → Int32} : isW f 0 = false := rfl
theorem isW_n {f : Nat → Int32} {n i : Nat} (hi : i < n) (h : ¬ sgn (f i) = true) : isW f n = false := by
  cases e : isW f n with
  | false => rfl
  | true =>
    unfold isW at e
    rw [Bool.and_eq_true, List.all_eq_true] at e
    exact absurd (e.2 i (List.mem_range.mpr hi)) h
theorem isW_of {f : Nat → Int32} {n : Nat} (h : isW f n = true) : 0 < n ∧ ∀ i, i < n → sgn (f i) = true := by
  unfold isW at h
  rw [Bool.and_eq_true, List.all_eq_true] at h
  exact ⟨of_decide_eq_true h.1, fun i hi => h.2 i (List.mem_range.mpr hi)⟩
/-! order -/
def odr (f g : Nat → Int32) (a b : Nat) : Nat → Nat → Int32
  | 0, _ => if a < b then -1 else if b < a then 1 else 0
  | r + 1, i => if f i = g i then odr f g a b r (i + 1) else if f i < g i then -1 else 1
def od (T U : Tm) : Int32 := odr T.2 U.2 T.1 U.1 (min T.1 U.1) 0
theorem odr_self (f : Nat → Int32) (a : Nat) : ∀ (r i : Nat), odr f f a a r i = 0
  | 0, i => by
    unfold odr
    rw [if_neg (Nat.lt_irrefl a), if_neg (Nat.lt_irrefl a)]
  | r + 1, i => by
    unfold odr
    rw [if_pos rfl]
    exact odr_self f a r (i + 1)
theorem od_self (T : Tm) : od T T = 0 := odr_self _ _ _ _
def fsr (ts : List Tm) (T : Tm) : Nat → Nat → Nat
  | 0, j => j
  | r + 1, j => match ts[j]? with
    | some U => if od U T = 0 then j else fsr ts T r (j + 1)
    | none => j
/-- the first term that is the same as T, which stands at k -/
def fst (ts : List Tm) (T : Tm) (k : Nat) : Nat := fsr ts T k 0
theorem fsr_y {ts : List Tm} {T U : Tm} {r j : Nat} (hU : ts[j]? = some U) (h : od U T = 0) : fsr ts T (r + 1) j = j := by
  unfold fsr
  rw [hU]
  exact if_pos h
theorem fsr_n {ts : List Tm} {T U : Tm} {r j : Nat} (hU : ts[j]? = some U) (h : ¬ od U T = 0) : fsr ts T (r + 1) j = fsr ts T r (j + 1) := by
  conv => lhs; unfold fsr
  rw [hU]
  exact if_neg h
theorem fsr_le {ts : List Tm} {T : Tm} : ∀ (r j : Nat), j + r < 2 ^ 30 → fsr ts T r j ≤ j + r
  | 0, j, _ => Nat.le_refl _
  | r + 1, j, h => by
    unfold fsr
    split
    · split
      · omega
      · have := fsr_le (ts := ts) (T := T) r (j + 1) (by omega)
        omega
    · omega
/-- how many terms below m are the first of their kind -/
def dct (ts : List Tm) : Nat → Nat
  | 0 => 0
  | m + 1 => dct ts m + (match ts[m]? with
    | some T => if fst ts T m = m then 1 else 0
    | none => 0)
theorem dct_le (ts : List Tm) : ∀ m, dct ts m ≤ m
  | 0 => Nat.le_refl _
  | m + 1 => by
    have := dct_le ts m
    unfold dct
    split
    · split <;> omega
    · omega
theorem dct_y {ts : List Tm} {T : Tm} {m : Nat} (hT : ts[m]? = some T) (h : fst ts T m = m) : dct ts (m + 1) = dct ts m + 1 := by
  conv => lhs; unfold dct
  rw [hT]
  show dct ts m + (if fst ts T m = m then 1 else 0) = _
  rw [if_pos h]
theorem dct_n {ts : List Tm} {T : Tm} {m : Nat} (hT : ts[m]? = some T) (h : ¬ fst ts T m = m) : dct ts (m + 1) = dct ts m := by
  conv => lhs; unfold dct
  rw [hT]
  show dct ts m + (if fst ts T m = m then 1 else 0) = _
  rw [if_neg h]
  rfl
/-! distance -/
def lro (pv : Nat → Nat) (c : Nat → Bool) (a : Nat) : Nat → Nat
  | 0 => a
  | b + 1 => min (pv b + (if c b = true then 0 else 1)) (min (pv (b + 1)) (lro pv c a b) + 1)
def lvr (f g : Nat → Int32) : Nat → Nat → Nat
  | 0, b => b
  | a + 1, b => lro (lvr f g a) (fun j => decide (f a = g j)) (a + 1) b
def lev (T U : Tm) : Nat := lvr T.2 U.2 T.1 U.1
theorem lvr_0 (f g : Nat → Int32) (b : Nat) : lvr f g 0 b = b := rfl
theorem lvr_s0 (f g : Nat → Int32) (a : Nat) : lvr f g (a + 1) 0 = a + 1 := rfl
theorem lvr_a0 (f g : Nat → Int32) (a : Nat) : lvr f g a 0 = a := by cases a <;> rfl
theorem lvr_ss (f g : Nat → Int32) (a b : Nat) : lvr f g (a + 1) (b + 1) = min (lvr f g a b + (if f a = g b then 0 else 1)) (min (lvr f g a (b + 1)) (lvr f g (a + 1) b) + 1) := by
  show min (lvr f g a b + (if decide (f a = g b) = true then 0 else 1)) _ = _
  simp only [decide_eq_true_eq]
  rfl
theorem lvr_le (f g : Nat → Int32) : ∀ (a b : Nat), lvr f g a b ≤ max a b
  | 0, b => by rw [lvr_0]; omega
  | a + 1, 0 => by rw [lvr_s0]; omega
  | a + 1, b + 1 => by
    have h := lvr_le f g a b
    rw [lvr_ss]
    split <;> omega
theorem lev_le {T U : Tm} (h1 : T.1 ≤ 24) (h2 : U.1 ≤ 24) : lev T U ≤ 24 := by
  have := lvr_le T.2 U.2 T.1 U.1
  unfold lev
  omega
/-! the nearest term; c: the distance to begin with -/
def nbs (ts : List Tm) (T : Tm) (c : Nat) : Nat → Int32 × Nat
  | 0 => (-2, c)
  | m + 1 => match ts[m]? with
    | some U => if lev U T < (nbs ts T c m).2 then (nI m, lev U T) else nbs ts T c m
    | none => nbs ts T c m
theorem nbs_y {ts : List Tm} {T U : Tm} {c m : Nat} (hU : ts[m]? = some U) (h : lev U T < (nbs ts T c m).2) : nbs ts T c (m + 1) = (nI m, lev U T) := by
  conv => lhs; unfold nbs
  rw [hU]
  exact if_pos h
theorem nbs_n {ts : List Tm} {T U : Tm} {c m : Nat} (hU : ts[m]? = some U) (h : ¬ lev U T < (nbs ts T c m).2) : nbs ts T c (m + 1) = nbs ts T c m := by
  conv => lhs; unfold nbs
  rw [hU]
  exact if_neg h
theorem nbs_le (ts : List Tm) (T : Tm) (c : Nat) : ∀ m, (nbs ts T c m).2 ≤ c
  | 0 => Nat.le_refl _
  | m + 1 => by
    have := nbs_le ts T c m
    unfold nbs
    split
    · split
      · show lev _ T ≤ c
        omega
      · exact this
    · exact this
/-- whether one begins with 25 or with 100 is the same, where all distances are at most 24 -/
theorem nbs_same {ts : List Tm} {T : Tm} (h : ∀ (k : Nat) (U : Tm), ts[k]? = some U → lev U T ≤ 24) : ∀ m, m ≤ ts.length → nbs ts T 25 m = nbs ts T 100 m ∨ (m = 0)
  | 0, _ => Or.inr rfl
  | m + 1, hm => by
    have hU : ts[m]? = some ts[m] := List.getElem?_eq_getElem (by omega)
    have h24 := h m _ hU
    rcases nbs_same h m (by omega) with e | e
    · left
      unfold nbs
      rw [hU, e]
    · subst e
      left
      rw [nbs_y hU (by show _ < 25; omega), nbs_y hU (by show _ < 100; omega)]
theorem nbs_eq {ts : List Tm} {T : Tm} (h : ∀ (k : Nat) (U : Tm), ts[k]? = some U → lev U T ≤ 24) : (nbs ts T 25 ts.length).1 = (nbs ts T 100 ts.length).1 := by
  rcases nbs_same h ts.length (Nat.le_refl _) with e | e
  · rw [e]
  · rw [e]
    rfl
/-- the term that a number means -/
def hasT (ts : List Tm) (k : Int32) : Option Tm := if k < 0 then none else ts[k.toNatClampNeg]?
theorem hasT_neg {ts : List Tm} {k : Int32} (h : k < 0) : hasT ts k = none := if_pos h
theorem hasT_big {ts : List Tm} {k : Int32} (h0 : ¬ k < 0) (h : nI ts.length ≤ k) (hl : ts.length ≤ 150) : hasT ts k = none := by
  obtain ⟨j, hj, rfl⟩ := nI_of h0
  unfold hasT
  rw [if_neg h0, nI_clamp hj]
  exact List.getElem?_eq_none ((nI_leI (by omega) hj).mp h)
theorem hasT_in {ts : List Tm} {j : Nat} (h : j < 2 ^ 31) : hasT ts (nI j) = ts[j]? := by
  unfold hasT
  rw [if_neg (nI_pos h), nI_clamp h]
/-- a number: no term's, or a place -/
theorem hasT_cases (ts : List Tm) (k : Int32) (hl : ts.length ≤ 150) : (hasT ts k = none ∧ (k < 0 ∨ nI ts.length ≤ k)) ∨ ∃ (j : Nat) (T : Tm), j < ts.length ∧ k = nI j ∧ ts[j]? = some T ∧ hasT ts k = some T := by
  rcases pk_ix k (n := ts.length) (by omega) with h | h | ⟨j, hj, rfl⟩
  · exact Or.inl ⟨hasT_neg h, Or.inl h⟩
  · by_cases h0 : k < 0
    · exact Or.inl ⟨hasT_neg h0, Or.inl h0⟩
    · exact Or.inl ⟨hasT_big h0 h hl, Or.inr h⟩
  · refine Or.inr ⟨j, ts[j], hj, rfl, List.getElem?_eq_getElem hj, ?_⟩
    rw [hasT_in (by omega)]
    exact List.getElem?_eq_getElem hj
