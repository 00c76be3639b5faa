/-! THE REFERENCE: lines -/
def eol (xs : List Nat) (k : Nat) : Nat := skp (fun j => decide (xs.getD j 0 ≠ 10)) (xs.length - k) k
theorem skp_cut {p : Nat → Bool} {e len : Nat} (hl : e ≤ len) (he : e = len ∨ p e = false) : ∀ (m k : Nat), e - k = m → k ≤ e → skp p (e - k) k = skp p (len - k) k := by
  intro m
  induction m with
  | zero =>
    intro k h1 h2
    have : k = e := by omega
    subst this
    rcases he with rfl | he
    · rfl
    · rw [Nat.sub_self]
      cases h : len - k with
      | zero => rfl
      | succ n => show k = if p k = true then _ else k; rw [he]; rfl
  | succ m ih =>
    intro k h1 h2
    have e1 : e - k = (e - (k + 1)) + 1 := by omega
    have e2 : len - k = (len - (k + 1)) + 1 := by omega
    rw [e1, e2]
    show (if p k = true then skp p (e - (k + 1)) (k + 1) else k) = (if p k = true then skp p (len - (k + 1)) (k + 1) else k)
    rw [ih (k + 1) (by omega) (by omega)]
theorem skp_stop {p : Nat → Bool} : ∀ (m k : Nat), (∀ j, k ≤ j → j < skp p m k → p j = true) ∧ (skp p m k = k + m ∨ p (skp p m k) = false)
  | 0, k => ⟨fun j h1 h2 => by have h2 : j < k := h2; omega, Or.inl rfl⟩
  | m + 1, k => by
    have ih := skp_stop (p := p) m (k + 1)
    by_cases q : p k = true
    · have e : skp p (m + 1) k = skp p m (k + 1) := by show (if p k = true then _ else _) = _; rw [if_pos q]
      rw [e]
      refine ⟨fun j h1 h2 => ?_, ?_⟩
      · by_cases e : j = k
        · rw [e]; exact q
        · exact ih.1 j (by omega) h2
      · rcases ih.2 with z | z
        · exact Or.inl (by omega)
        · exact Or.inr z
    · have e : skp p (m + 1) k = k := by show (if p k = true then _ else _) = _; rw [if_neg q]
      rw [e]
      exact ⟨fun j h1 h2 => by omega, Or.inr (Bool.eq_false_iff.mpr q)⟩
theorem skp_is {p : Nat → Bool} {e : Nat} : ∀ (m k : Nat), k ≤ e → e ≤ k + m → (∀ j, k ≤ j → j < e → p j = true) → (e = k + m ∨ p e = false) → skp p m k = e
  | 0, k, h1, h2, _, _ => by show k = e; omega
  | m + 1, k, h1, h2, h3, h4 => by
    show (if p k = true then skp p m (k + 1) else k) = e
    by_cases q : k = e
    · subst q
      rcases h4 with z | z
      · omega
      · rw [z]; rfl
    · rw [if_pos (h3 k (Nat.le_refl _) (by omega))]
      exact skp_is m (k + 1) (by omega) (by omega) (fun j a b => h3 j (by omega) b) (by rcases h4 with z | z; exact Or.inl (by omega); exact Or.inr z)
def lnOK (xs : List Nat) : Nat → List (Nat × Nat) → Prop
  | st, [] => xs.length ≤ st
  | st, q :: ls => q.1 = st ∧ st < xs.length ∧ q.2 = eol xs st ∧ lnOK xs (q.2 + 1) ls
theorem lnA_OK {xs : List Nat} : ∀ (k i st : Nat), i + k = xs.length → st ≤ i → (∀ j, st ≤ j → j < i → xs.getD j 0 ≠ 10) → lnOK xs st (lnA xs k i st)
  | 0, i, st, h1, h2, h3 => by
    show lnOK xs st (if st < xs.length then [(st, xs.length)] else [])
    have h1 : i = xs.length := h1
    split
    · next q =>
      refine ⟨rfl, q, ?_, Nat.le_succ _⟩
      exact (skp_is _ _ (by omega) (by omega) (fun j a b => decide_eq_true (h3 j a (by omega))) (Or.inl (by omega))).symm
    · next q => exact Nat.le_of_not_lt q
  | k + 1, i, st, h1, h2, h3 => by
    show lnOK xs st (if xs.getD i 0 = 10 then (st, i) :: lnA xs k (i + 1) (i + 1) else lnA xs k (i + 1) st)
    split
    · next q =>
      refine ⟨rfl, by omega, ?_, lnA_OK k (i + 1) (i + 1) (by omega) (Nat.le_refl _) (fun j a b => by omega)⟩
      exact (skp_is _ _ h2 (by omega) (fun j a b => decide_eq_true (h3 j a b)) (Or.inr (decide_eq_false (fun z => z q)))).symm
    · next q =>
      refine lnA_OK k (i + 1) st (by omega) (by omega) (fun j a b => ?_)
      by_cases e : j = i
      · rw [e]; exact q
      · exact h3 j a (by omega)
theorem lnz_OK (xs : List Nat) : lnOK xs 0 (lnz xs) := lnA_OK _ _ _ (Nat.zero_add _) (Nat.le_refl _) (fun j a b => by omega)
theorem lnOK_get {xs : List Nat} : ∀ (ls : List (Nat × Nat)) (st i : Nat), lnOK xs st ls → i < ls.length → (ls.getD i (0, 0)).1 < xs.length ∧ (ls.getD i (0, 0)).2 = eol xs (ls.getD i (0, 0)).1 ∧ (i = 0 → (ls.getD i (0, 0)).1 = st) ∧ (i + 1 < ls.length → (ls.getD (i + 1) (0, 0)).1 = (ls.getD i (0, 0)).2 + 1) ∧ (i + 1 = ls.length → xs.length ≤ (ls.getD i (0, 0)).2 + 1)
  | [], st, i, h, hi => by cases hi
  | q :: ls, st, 0, h, hi => by
    obtain ⟨h1, h2, h3, h4⟩ := h
    refine ⟨by show q.1 < _; omega, by show q.2 = eol xs q.1; rw [h1]; exact h3, fun _ => h1, fun z => ?_, fun z => ?_⟩
    · cases ls with
      | nil => exact absurd z (Nat.lt_irrefl _)
      | cons a ls => exact h4.1
    · cases ls with
      | nil => exact h4
      | cons a ls => exact absurd z (by show 0 + 1 ≠ ls.length + 1 + 1; omega)
  | q :: ls, st, i + 1, h, hi => by
    obtain ⟨h1, h2, h3, h4⟩ := h
    have ih := lnOK_get ls (q.2 + 1) i h4 (Nat.lt_of_succ_lt_succ hi)
    exact ⟨ih.1, ih.2.1, fun z => absurd z (Nat.succ_ne_zero _), fun z => ih.2.2.2.1 (Nat.lt_of_succ_lt_succ z), fun z => ih.2.2.2.2 (Nat.succ.inj z)⟩
/-- where a line begins; the end of all behind the last -/
def lo (xs : List Nat) (i : Nat) : Nat := if i < (lnz xs).length then ((lnz xs).getD i (0, 0)).1 else xs.length
section
variable {xs : List Nat} {i j : Nat}
theorem lo_in (h : i < (lnz xs).length) : lo xs i < xs.length ∧ ((lnz xs).getD i (0, 0)) = (lo xs i, eol xs (lo xs i)) := by
  have := lnOK_get _ _ i (lnz_OK xs) h
  unfold lo
  rw [if_pos h]
  exact ⟨this.1, Prod.ext rfl this.2.1⟩
theorem lo_out (h : (lnz xs).length ≤ i) : lo xs i = xs.length := if_neg (by omega)
theorem eol_le {k : Nat} (h : k ≤ xs.length) : k ≤ eol xs k ∧ eol xs k ≤ xs.length := by
  have := skp_le (fun j => decide (xs.getD j 0 ≠ 10)) (xs.length - k) k
  unfold eol
  omega
theorem eol_at {k : Nat} (h : k ≤ xs.length) : eol xs k = xs.length ∨ xs.getD (eol xs k) 0 = 10 := by
  rcases (skp_stop (p := fun j => decide (xs.getD j 0 ≠ 10)) (xs.length - k) k).2 with z | z
  · exact Or.inl (by unfold eol; omega)
  · exact Or.inr (by unfold eol; exact Classical.byContradiction fun w => by rw [decide_eq_true w] at z; cases z)
/-- behind a line's end -/
theorem lo_next (h : i < (lnz xs).length) : min (eol xs (lo xs i) + 1) xs.length = lo xs (i + 1) ∧ (i + 1 < (lnz xs).length → lo xs (i + 1) = eol xs (lo xs i) + 1) ∧ (i + 1 = (lnz xs).length → xs.length ≤ eol xs (lo xs i) + 1) := by
  have h1 := lnOK_get _ _ i (lnz_OK xs) h
  have h2 := lo_in h
  rw [h2.2] at h1
  have h3 : eol xs (lo xs i) ≤ xs.length := (eol_le (Nat.le_of_lt h2.1)).2
  rcases Nat.lt_or_ge (i + 1) (lnz xs).length with q | q
  · have h4 := h1.2.2.2.1 q
    have h5 := lo_in q
    have e : lo xs (i + 1) = eol xs (lo xs i) + 1 := by rw [← h4, h5.2]
    exact ⟨by omega, fun _ => e, fun z => by omega⟩
  · have h4 := h1.2.2.2.2 (by omega)
    have h4 : xs.length ≤ eol xs (lo xs i) + 1 := h4
    rw [lo_out q]
    exact ⟨by omega, fun z => by omega, fun _ => h4⟩
theorem lo_lt (h : i < j) (hj : j ≤ (lnz xs).length) : lo xs i < lo xs j := by
  have : ∀ n, i + n + 1 ≤ (lnz xs).length → lo xs i < lo xs (i + n + 1) := by
    intro n
    induction n with
    | zero =>
      intro hn
      have h1 := lo_next (xs := xs) (i := i) (by omega)
      have h2 := lo_in (xs := xs) (i := i) (by omega)
      have h3 := eol_le (xs := xs) (k := lo xs i) (by omega)
      show lo xs i < lo xs (i + 1)
      omega
    | succ n ih =>
      intro hn
      have h0 := ih (by omega)
      have h1 := lo_next (xs := xs) (i := i + n + 1) (by omega)
      have h2 := lo_in (xs := xs) (i := i + n + 1) (by omega)
      have h3 := eol_le (xs := xs) (k := lo xs (i + n + 1)) (by omega)
      show lo xs i < lo xs (i + n + 1 + 1)
      omega
  have := this (j - i - 1) (by omega)
  rw [show i + (j - i - 1) + 1 = j by omega] at this
  exact this
theorem lo_le : lo xs i ≤ xs.length := by
  rcases Nat.lt_or_ge i (lnz xs).length with q | q
  · exact Nat.le_of_lt (lo_in q).1
  · rw [lo_out q]; exact Nat.le_refl _
/-- a place is where a line begins -/
def atL (xs : List Nat) (i a : Nat) : Prop := i ≤ (lnz xs).length ∧ a ≤ 2000 ∧ (i < (lnz xs).length → a = lo xs i) ∧ (i = (lnz xs).length → xs.length ≤ a)
theorem atL_lt {a : Nat} (h : atL xs i a) (hj : j ≤ (lnz xs).length) : a < lo xs j ↔ i < j := by
  obtain ⟨h1, h2, h3, h4⟩ := h
  rcases Nat.lt_or_ge i (lnz xs).length with q | q
  · rw [h3 q]
    constructor
    · intro z
      rcases Nat.lt_or_ge i j with w | w
      · exact w
      · rcases Nat.lt_or_ge j i with u | u
        · have := lo_lt (xs := xs) u h1; omega
        · have : i = j := by omega
          subst this
          omega
    · exact fun z => lo_lt z hj
  · have := h4 (by omega)
    have h5 := lo_le (xs := xs) (i := j)
    omega
theorem atL_lo (h : i ≤ (lnz xs).length) (hl : xs.length ≤ 512) : atL xs i (lo xs i) := ⟨h, by have := lo_le (xs := xs) (i := i); omega, fun _ => rfl, fun z => by rw [lo_out (by omega)]; exact Nat.le_refl _⟩
theorem atL_next {a : Nat} (h : atL xs i a) (hi : i < (lnz xs).length) (hl : xs.length ≤ 512) : atL xs (i + 1) (eol xs a + 1) := by
  have e := h.2.2.1 hi
  have h1 := lo_next hi
  have h2 := eol_le (xs := xs) (k := lo xs i) lo_le
  rw [e]
  exact ⟨hi, by omega, fun z => (h1.2.1 z).symm, h1.2.2⟩
end
/-- the tape holds the source -/
def TP (r : zR) (xs : List Nat) : Prop := r.1 4 = nI xs.length ∧ xs.length ≤ 512 ∧ byB (r.2.1 167) xs
section
variable {d : Nat} {S : zS} {r : zR} {xs : List Nat} {k e : Nat}
set_option maxRecDepth 10000 in
theorem C_X8_endOfLine (h : TP r xs) (hk : k ≤ 2000) : Rc d mX8_endOfLine [.ref 165, .int (nI k)] (RS S r) (fun v S1 => S1 = RS S r ∧ v = some (.int (nI (eol xs k)))) := by
  obtain ⟨h1, h2, h3⟩ := h
  have loop : ∀ (m i : Nat) (L : Nat → Option Value), xs.length - i = m → i ≤ 2000 → skp (fun j => decide (xs.getD j 0 ≠ 10)) m i = eol xs k → L 0 = some (.ref 165) → L 1 = some (.int (nI k)) → L 2 = some (.int (nI i)) → Ru d mX8_endOfLine 2 L [] (RS S r) (z_en mX8_endOfLine (fun v S1 => S1 = RS S r ∧ v = some (.int (nI (eol xs k))))) := by
    intro m
    induction m with
    | zero =>
      intro i L hm hi hs l0 l1 l2
      refine r_iload_n dX8_endOfLine_2 (by first | rfl | assumption) ?_
      refine r_aload_n dX8_endOfLine_3 (by first | rfl | assumption) ?_
      refine r8_get dX8_endOfLine_4 zf_X8_160 rfl ?_
      rw [h1]
      refine r_icmp_ge_t (tgt := 27) dX8_endOfLine_7 (by decide) (nI_le (a := xs.length) (b := i) (by omega) (by omega)) ?_
      refine r_iload_n dX8_endOfLine_27 (by first | rfl | assumption) ?_
      refine r_ireturn dX8_endOfLine_28 _ rfl rfl ⟨rfl, by rw [← hs]; rfl⟩
    | succ m ih =>
      intro i L hm hi hs l0 l1 l2
      have hx := h3 i (by omega)
      have hs1 : (if decide (xs.getD i 0 ≠ 10) = true then skp (fun j => decide (xs.getD j 0 ≠ 10)) m (i + 1) else i) = eol xs k := hs
      refine r_iload_n dX8_endOfLine_2 (by first | rfl | assumption) ?_
      refine r_aload_n dX8_endOfLine_3 (by first | rfl | assumption) ?_
      refine r8_get dX8_endOfLine_4 zf_X8_160 rfl ?_
      rw [h1]
      refine r_icmp_ge_f (tgt := 27) dX8_endOfLine_7 (by decide) (nI_ge (a := i) (b := xs.length) (by omega) (by omega)) ?_
      refine r_aload_n dX8_endOfLine_10 (by first | rfl | assumption) ?_
      refine r8_get dX8_endOfLine_11 zf_X8_14 rfl ?_
      refine r_iload_n dX8_endOfLine_14 (by first | rfl | assumption) ?_
      refine r8_bald dX8_endOfLine_15 (by decide) (rfl) (by first | assumption | exact (show _ < 65536 by omega) | exact (show _ < 1100 by omega) | exact (show _ < 24 by omega) | exact (show _ < 2100 by omega) | exact (show _ < 6600 by omega) | exact (show _ < 1110 by omega)) ?_
      rw [hx.2]
      refine r_bp (10) dX8_endOfLine_16 rfl ?_
      by_cases q : xs.getD i 0 = 10
      · rw [decide_eq_false (fun z => z q), if_neg Bool.false_ne_true] at hs1
        refine r_icmp_eq_t (tgt := 27) dX8_endOfLine_18 (by decide) ((sb_is hx.1 (by decide)).mpr q) ?_
        refine r_iload_n dX8_endOfLine_27 (by first | rfl | assumption) ?_
        refine r_ireturn dX8_endOfLine_28 _ rfl rfl ⟨rfl, by rw [← hs1]⟩
      · rw [decide_eq_true q, if_pos rfl] at hs1
        refine r_icmp_eq_f (tgt := 27) dX8_endOfLine_18 (by decide) (fun z => q ((sb_is hx.1 (c := 10) (by decide)).mp z)) ?_
        refine r_inc (nI (i + 1)) dX8_endOfLine_21 (by first | rfl | assumption) (by decide) (by first | exact z_c1_i (by first | rfl | assumption) | exact z_c1_r (by first | rfl | assumption) | exact z_c1_n (by first | rfl | assumption) | exact z_c1_c (by first | rfl | assumption) | exact z_c1_0 (by first | rfl | assumption)) (nI_1 _) ?_
        refine r_goto (tgt := 2) dX8_endOfLine_24 (by decide) ?_
        exact ih (i + 1) _ (by omega) (by omega) hs1 l0 l1 rfl
  refine Rc.of ?_
  refine r_iload_n dX8_endOfLine_0 (by first | rfl | assumption) ?_
  refine r_istore_n dX8_endOfLine_1 (by decide) (by first | exact z_c1_i (by first | rfl | assumption) | exact z_c1_r (by first | rfl | assumption) | exact z_c1_n (by first | rfl | assumption) | exact z_c1_c (by first | rfl | assumption) | exact z_c1_0 (by first | rfl | assumption)) ?_
  exact loop _ k _ rfl hk rfl rfl rfl rfl
theorem seg_nm {k e : Nat} (hb : byB (r.2.1 167) xs ∨ ∀ j, j < xs.length → xs.getD j 0 < 256) (he : e ≤ xs.length) (hk : k ≤ e) : ∀ b ∈ seg xs k (nmE xs k e), b < 256 ∧ fNm (nI b) = true := by
  have hle := skp_le (fun j => fNm (nI (xs.getD j 0))) (e - k) k
  have hst := (skp_stop (p := fun j => fNm (nI (xs.getD j 0))) (e - k) k).1
  intro b hbm
  obtain ⟨j, hj, rfl⟩ := List.mem_iff_getElem.mp hbm
  have hn : nmE xs k e ≤ e := by unfold nmE; omega
  rw [seg_len (by omega)] at hj
  rw [gE_D, seg_getD hj]
  refine ⟨?_, hst _ (by omega) (by unfold nmE at hj; omega)⟩
  rcases hb with hb | hb
  · exact (hb _ (by omega)).1
  · exact hb _ (by omega)
set_option maxRecDepth 10000 in
theorem C_X8_firstWord (h : TP r xs) (hk : k ≤ e) (he : e ≤ xs.length) (hn : e = xs.length ∨ xs.getD e 0 = 10) : Rc (d + 3) mX8_firstWord [.ref 165, .int (nI k), .int (nI e)] (RS S r) (fun v S1 => S1 = RS S r ∧ v = some (.int (wI (lw xs k)))) := by
  have h9 := h
  obtain ⟨h1, h2, h3⟩ := h
  have eB : skp (fun j => fBl (nI (xs.getD j 0))) (e - k) k = skB xs k := skp_cut he (hn.imp id (fun z => by rw [z]; rfl)) _ k rfl hk
  have hsk := skp_le (fun j => fBl (nI (xs.getD j 0))) (e - k) k
  rw [eB] at hsk
  have eN : nmE xs (skB xs k) e = skN xs (skB xs k) := skp_cut he (hn.imp id (fun z => by rw [z]; rfl)) _ (skB xs k) rfl (by omega)
  have loop : ∀ (m i : Nat) (L : Nat → Option Value), e - i = m → i ≤ e → skp (fun j => fBl (nI (xs.getD j 0))) m i = skB xs k → L 0 = some (.ref 165) → L 1 = some (.int (nI k)) → L 2 = some (.int (nI e)) → L 3 = some (.int (nI i)) → Ru (d + 3) mX8_firstWord 2 L [] (RS S r) (z_en mX8_firstWord (fun v S1 => S1 = RS S r ∧ v = some (.int (wI (lw xs k))))) := by
    intro m
    have fin : ∀ (i : Nat) (L : Nat → Option Value), i ≤ e → i = skB xs k → L 0 = some (.ref 165) → L 2 = some (.int (nI e)) → L 3 = some (.int (nI i)) → Ru (d + 3) mX8_firstWord 35 L [] (RS S r) (z_en mX8_firstWord (fun v S1 => S1 = RS S r ∧ v = some (.int (wI (lw xs k))))) := by
      intro i L hi hs l0 l2 l3
      refine r_aload_n dX8_firstWord_35 (by first | rfl | assumption) ?_
      refine r8_get dX8_firstWord_36 zf_X8_14 rfl ?_
      refine r_iload_n dX8_firstWord_39 (by first | rfl | assumption) ?_
      refine r_iload_n dX8_firstWord_40 (by first | rfl | assumption) ?_
      refine r_callS3 dX8_firstWord_41 zm_X8_152 (Nat.le_of_ble_eq_true rfl) (Nat.le_of_ble_eq_true rfl) (C_X8_packed (c := 167) (Or.inl rfl) h3 (show xs.length ≤ 65536 by omega) hi he) (fun v S9 hv => ?_)
      obtain ⟨rfl, rfl⟩ := hv
      refine r_callS1 dX8_firstWord_44 zm_X8_156 (Nat.le_of_ble_eq_true rfl) (Nat.le_of_ble_eq_true rfl) (C_X8_word (seg_nm (Or.inl h3) he hi)) (fun v S9 hv => ?_)
      obtain ⟨rfl, rfl⟩ := hv
      refine r_ireturn dX8_firstWord_47 _ rfl rfl ⟨rfl, ?_⟩
      rw [hs, eN]
      rfl
    induction m with
    | zero =>
      intro i L hm hi hs l0 l1 l2 l3
      refine r_iload_n dX8_firstWord_2 (by first | rfl | assumption) ?_
      refine r_iload_n dX8_firstWord_3 (by first | rfl | assumption) ?_
      refine r_icmp_ge_t (tgt := 35) dX8_firstWord_4 (by decide) (nI_le (a := e) (b := i) (by omega) (by omega)) ?_
      exact fin i _ hi hs l0 l2 l3
    | succ m ih =>
      intro i L hm hi hs l0 l1 l2 l3
      have hx := h3 i (by omega)
      have hs1 : (if fBl (nI (xs.getD i 0)) = true then skp (fun j => fBl (nI (xs.getD j 0))) m (i + 1) else i) = skB xs k := hs
      refine r_iload_n dX8_firstWord_2 (by first | rfl | assumption) ?_
      refine r_iload_n dX8_firstWord_3 (by first | rfl | assumption) ?_
      refine r_icmp_ge_f (tgt := 35) dX8_firstWord_4 (by decide) (nI_ge (a := i) (b := e) (by omega) (by omega)) ?_
      refine r_aload_n dX8_firstWord_7 (by first | rfl | assumption) ?_
      refine r8_get dX8_firstWord_8 zf_X8_14 rfl ?_
      refine r_iload_n dX8_firstWord_11 (by first | rfl | assumption) ?_
      refine r8_bald dX8_firstWord_12 (by decide) (rfl) (by first | assumption | exact (show _ < 65536 by omega) | exact (show _ < 1100 by omega) | exact (show _ < 24 by omega) | exact (show _ < 2100 by omega) | exact (show _ < 6600 by omega) | exact (show _ < 1110 by omega)) ?_
      rw [hx.2]
      refine r_bp (32) dX8_firstWord_13 rfl ?_
      have go : fBl (nI (xs.getD i 0)) = true → Ru (d + 3) mX8_firstWord 29 L [] (RS S r) (z_en mX8_firstWord (fun v S1 => S1 = RS S r ∧ v = some (.int (wI (lw xs k))))) := by
        intro q
        rw [if_pos q] at hs1
        refine r_inc (nI (i + 1)) dX8_firstWord_29 (by first | rfl | assumption) (by decide) (by first | exact z_c1_i (by first | rfl | assumption) | exact z_c1_r (by first | rfl | assumption) | exact z_c1_n (by first | rfl | assumption) | exact z_c1_c (by first | rfl | assumption) | exact z_c1_0 (by first | rfl | assumption)) (nI_1 _) ?_
        refine r_goto (tgt := 2) dX8_firstWord_32 (by decide) ?_
        exact ih (i + 1) _ (by omega) (by omega) hs1 l0 l1 l2 rfl
      by_cases q : xs.getD i 0 = 32
      · refine r_icmp_eq_t (tgt := 29) dX8_firstWord_15 (by decide) ((sb_is hx.1 (by decide)).mpr q) ?_
        exact go (by rw [q]; rfl)
      · refine r_icmp_eq_f (tgt := 29) dX8_firstWord_15 (by decide) (fun z => q ((sb_is hx.1 (c := 32) (by decide)).mp z)) ?_
        refine r_aload_n dX8_firstWord_18 (by first | rfl | assumption) ?_
        refine r8_get dX8_firstWord_19 zf_X8_14 rfl ?_
        refine r_iload_n dX8_firstWord_22 (by first | rfl | assumption) ?_
        refine r8_bald dX8_firstWord_23 (by decide) (rfl) (by first | assumption | exact (show _ < 65536 by omega) | exact (show _ < 1100 by omega) | exact (show _ < 24 by omega) | exact (show _ < 2100 by omega) | exact (show _ < 6600 by omega) | exact (show _ < 1110 by omega)) ?_
        rw [hx.2]
        refine r_bp (9) dX8_firstWord_24 rfl ?_
        by_cases q2 : xs.getD i 0 = 9
        · refine r_icmp_ne_f (tgt := 35) dX8_firstWord_26 (by decide) ((sb_is hx.1 (by decide)).mpr q2) ?_
          exact go (by rw [q2]; rfl)
        · refine r_icmp_ne_t (tgt := 35) dX8_firstWord_26 (by decide) (fun z => q2 ((sb_is hx.1 (c := 9) (by decide)).mp z)) ?_
          have hf : fBl (nI (xs.getD i 0)) = false := by
            unfold fBl
            rw [decide_eq_false (show ¬ nI (xs.getD i 0) = 9 from fun z => q2 ((nI_eq (b := 9) (by omega) (by decide)).mp z)), decide_eq_false (show ¬ nI (xs.getD i 0) = 32 from fun z => q ((nI_eq (b := 32) (by omega) (by decide)).mp z))]
            rfl
          rw [hf, if_neg Bool.false_ne_true] at hs1
          exact fin i _ hi hs1 l0 l2 l3
  refine Rc.of ?_
  refine r_iload_n dX8_firstWord_0 (by first | rfl | assumption) ?_
  refine r_istore_n dX8_firstWord_1 (by decide) (by first | exact z_c1_i (by first | rfl | assumption) | exact z_c1_r (by first | rfl | assumption) | exact z_c1_n (by first | rfl | assumption) | exact z_c1_c (by first | rfl | assumption) | exact z_c1_0 (by first | rfl | assumption)) ?_
  exact loop _ k _ rfl hk eB rfl rfl rfl rfl
/-- what a search leaves -/
def rFd (r : zR) (a n w b : Int32) : zR := rF (rF (rF (rF r 46 a) 47 n) 48 w) 49 b
theorem wI_eq {w v : Nat} (hw : w < 8) (hv : v < 8) (h0 : v ≠ 0) : wI w = nI v ↔ w = v := by
  unfold wI
  split
  · next q =>
    subst q
    constructor
    · intro z
      have : ∀ v, v < 8 → v ≠ 0 → (-1 : Int32) ≠ nI v := by decide
      exact absurd z (this v hv h0)
    · intro z; exact absurd z.symm h0
  · exact nI_eq (by omega) (by omega)
set_option maxRecDepth 10000 in
set_option maxHeartbeats 1000000 in
theorem C_X8_findEnd {i to a n bg en : Nat} {oe : Bool} (h : TP r xs) (ha : atL xs i a) (ht : to ≤ (lnz xs).length) (hn : n ≤ 2000) (hb : bg = 1 ∨ bg = 4 ∨ bg = 6) (hen : en = endW bg) : Rc (d + 4) mX8_findEnd [.ref 165, .int (nI a), .int (nI n), .int (nI (lo xs to)), .int (nI bg), .int (nI en), .int (bI oe)] (RS S r) (fun v S1 => match fnz (wsO xs) i to bg oe with
    | none => S1 = RS S r ∧ v = some (.int 0)
    | some o => S1 = RS S (rFd r (nI (lo xs o)) (nI (n + (o - i))) (nI ((wsO xs).getD o 0)) (nI (lo xs (o + 1)))) ∧ v = some (.int 1)) := by
  have h9 := h
  obtain ⟨h1, h2, h3⟩ := h
  have hcl : (lnz xs).length ≤ xs.length := cnt_len (c := ((0, 0), xs, [], [], (0, 0, 0), (false, false), (0, .null, 0)))
  have hen8 : en < 8 ∧ en ≠ 0 ∧ bg < 8 ∧ bg ≠ 0 ∧ (en ≠ bg) := by rw [hen]; rcases hb with rfl | rfl | rfl <;> decide
  have hi0 := ha.1
  have loop : ∀ (m j b op : Nat) (L : Nat → Option Value), to - j = m → i ≤ j → atL xs j b → op ≤ j - i → fnd (wsO xs) en bg (decide (bg ≠ 6)) oe m j op = fnz (wsO xs) i to bg oe → L 0 = some (.ref 165) → L 3 = some (.int (nI (lo xs to))) → L 4 = some (.int (nI bg)) → L 5 = some (.int (nI en)) → L 6 = some (.int (bI oe)) → L 7 = some (.int (nI b)) → L 8 = some (.int (nI (n + (j - i)))) → L 9 = some (.int (nI op)) → z_c1 (L 10) → Ru (d + 4) mX8_findEnd 9 L [] (RS S r) (z_en mX8_findEnd (fun v S1 => match fnz (wsO xs) i to bg oe with
    | none => S1 = RS S r ∧ v = some (.int 0)
    | some o => S1 = RS S (rFd r (nI (lo xs o)) (nI (n + (o - i))) (nI ((wsO xs).getD o 0)) (nI (lo xs (o + 1)))) ∧ v = some (.int 1))) := by
    intro m
    induction m with
    | zero =>
      intro j b op L hm hij hb2 hop hf l0 l3 l4 l5 l6 l7 l8 l9 l10
      have hf : none = fnz (wsO xs) i to bg oe := hf
      have := hb2.2.1
      have h5 := lo_le (xs := xs) (i := to)
      have h6 : ¬ b < lo xs to := fun z => by have := (atL_lt hb2 ht).mp z; omega
      refine r_iload dX8_findEnd_9 (by first | rfl | assumption) ?_
      refine r_iload_n dX8_findEnd_11 (by first | rfl | assumption) ?_
      refine r_icmp_ge_t (tgt := 141) dX8_findEnd_12 (by decide) (nI_le (a := lo xs to) (b := b) (by omega) (by omega)) ?_
      refine r_ic (0) dX8_findEnd_141 rfl ?_
      refine r_ireturn dX8_findEnd_142 _ rfl rfl ?_
      rw [← hf]
      exact ⟨rfl, rfl⟩
    | succ m ih =>
      intro j b op L hm hij hb2 hop hf l0 l3 l4 l5 l6 l7 l8 l9 l10
      have hjc : j < (lnz xs).length := by omega
      have eb := hb2.2.2.1 hjc
      have h5 := lo_le (xs := xs) (i := to)
      have h6 := (atL_lt hb2 ht).mpr (by omega)
      have h7 := eol_le (xs := xs) (k := b) (by omega)
      have hw : (wsO xs).getD j 0 = lw xs b := by
        unfold wsO
        rw [List.getD_eq_getElem?_getD, List.getElem?_map, getD_some (d0 := (0, 0)) hjc, (lo_in hjc).2, eb]
        rfl
      have hw8 := wsO_lt xs j
      rw [hw] at hw8
      have hf1 : (if op = 0 ∧ ((wsO xs).getD j 0 = en ∨ (oe = true ∧ (wsO xs).getD j 0 = 2)) then some j else fnd (wsO xs) en bg (decide (bg ≠ 6)) oe m (j + 1) (if (wsO xs).getD j 0 = en then op - 1 else if decide (bg ≠ 6) = true ∧ (wsO xs).getD j 0 = bg then op + 1 else op)) = fnz (wsO xs) i to bg oe := hf
      rw [hw] at hf1
      refine r_iload dX8_findEnd_9 (by first | rfl | assumption) ?_
      refine r_iload_n dX8_findEnd_11 (by first | rfl | assumption) ?_
      refine r_icmp_ge_f (tgt := 141) dX8_findEnd_12 (by decide) (nI_ge (a := b) (b := lo xs to) h6 (by omega)) ?_
      refine r_aload_n dX8_findEnd_15 (by first | rfl | assumption) ?_
      refine r_iload dX8_findEnd_16 (by first | rfl | assumption) ?_
      refine r_callV1 dX8_findEnd_18 zm_X8_163 RS_o rfl (Nat.le_of_ble_eq_true rfl) (Nat.le_of_ble_eq_true rfl) (C_X8_endOfLine h9 hb2.2.1) (fun v S9 hv => ?_)
      obtain ⟨rfl, rfl⟩ := hv
      refine r_istore dX8_findEnd_21 (by decide) (by first | exact z_c1_i (by first | rfl | assumption) | exact z_c1_r (by first | rfl | assumption) | exact z_c1_n (by first | rfl | assumption) | exact z_c1_c (by first | rfl | assumption) | exact z_c1_0 (by first | rfl | assumption)) ?_
      refine r_aload_n dX8_findEnd_23 (by first | rfl | assumption) ?_
      refine r_iload dX8_findEnd_24 (by first | rfl | assumption) ?_
      refine r_iload dX8_findEnd_26 (by first | rfl | assumption) ?_
      refine r_callV2 dX8_findEnd_28 zm_X8_167 RS_o rfl (Nat.le_of_ble_eq_true rfl) (Nat.le_of_ble_eq_true rfl) (C_X8_firstWord h9 h7.1 h7.2 (eol_at (by omega))) (fun v S9 hv => ?_)
      obtain ⟨rfl, rfl⟩ := hv
      refine r_istore dX8_findEnd_31 (by decide) (by first | exact z_c1_i (by first | rfl | assumption) | exact z_c1_r (by first | rfl | assumption) | exact z_c1_n (by first | rfl | assumption) | exact z_c1_c (by first | rfl | assumption) | exact z_c1_0 (by first | rfl | assumption)) ?_
      refine r_iload dX8_findEnd_33 (by first | rfl | assumption) ?_
      have l102 : ¬ (op = 0 ∧ (lw xs b = en ∨ (oe = true ∧ lw xs b = 2))) → Ru (d + 4) mX8_findEnd 102 (z_s1 (z_s1 L 10 (.int (nI (eol xs b)))) 11 (.int (wI (lw xs b)))) [] (RS S r) (z_en mX8_findEnd (fun v S1 => match fnz (wsO xs) i to bg oe with
          | none => S1 = RS S r ∧ v = some (.int 0)
          | some o => S1 = RS S (rFd r (nI (lo xs o)) (nI (n + (o - i))) (nI ((wsO xs).getD o 0)) (nI (lo xs (o + 1)))) ∧ v = some (.int 1))) := by
        intro q
        rw [if_neg q] at hf1
        have l129 : ∀ (L2 : Nat → Option Value) (op2 : Nat), op2 ≤ j + 1 - i → fnd (wsO xs) en bg (decide (bg ≠ 6)) oe m (j + 1) op2 = fnz (wsO xs) i to bg oe → L2 0 = some (.ref 165) → L2 3 = some (.int (nI (lo xs to))) → L2 4 = some (.int (nI bg)) → L2 5 = some (.int (nI en)) → L2 6 = some (.int (bI oe)) → L2 7 = some (.int (nI b)) → L2 8 = some (.int (nI (n + (j - i)))) → L2 9 = some (.int (nI op2)) → L2 10 = some (.int (nI (eol xs b))) → Ru (d + 4) mX8_findEnd 129 L2 [] (RS S r) (z_en mX8_findEnd (fun v S1 => match fnz (wsO xs) i to bg oe with
            | none => S1 = RS S r ∧ v = some (.int 0)
            | some o => S1 = RS S (rFd r (nI (lo xs o)) (nI (n + (o - i))) (nI ((wsO xs).getD o 0)) (nI (lo xs (o + 1)))) ∧ v = some (.int 1))) := by
          intro L2 op2 ho2 hf2 l0 l3 l4 l5 l6 l7 l8 l9 l10
          refine r_iload dX8_findEnd_129 (by first | rfl | assumption) ?_
          refine r_ic (1) dX8_findEnd_131 rfl ?_
          refine r_iadd dX8_findEnd_132 ?_
          rw [nI_1]
          refine r_istore dX8_findEnd_133 (by decide) (by first | exact z_c1_i (by first | rfl | assumption) | exact z_c1_r (by first | rfl | assumption) | exact z_c1_n (by first | rfl | assumption) | exact z_c1_c (by first | rfl | assumption) | exact z_c1_0 (by first | rfl | assumption)) ?_
          refine r_inc (nI (n + (j - i) + 1)) dX8_findEnd_135 (by first | rfl | assumption) (by decide) (by first | exact z_c1_i (by first | rfl | assumption) | exact z_c1_r (by first | rfl | assumption) | exact z_c1_n (by first | rfl | assumption) | exact z_c1_c (by first | rfl | assumption) | exact z_c1_0 (by first | rfl | assumption)) (nI_1 _) ?_
          refine r_goto (tgt := 9) dX8_findEnd_138 (by decide) ?_
          refine ih (j + 1) (eol xs b + 1) op2 _ (by omega) (by omega) (atL_next hb2 hjc h2) ho2 hf2 l0 l3 l4 l5 l6 rfl ?_ l9 (z_c1_i l10)
          show some (Value.int (nI (n + (j - i) + 1))) = _
          rw [show n + (j + 1 - i) = n + (j - i) + 1 by omega]
        have l119 : ∀ (L2 : Nat → Option Value) (op2 : Nat), op2 ≤ j + 1 - i → (lw xs b = en → op2 = op) → (lw xs b ≠ en → op2 = if decide (bg ≠ 6) = true ∧ lw xs b = bg then op + 1 else op) → L2 0 = some (.ref 165) → L2 3 = some (.int (nI (lo xs to))) → L2 4 = some (.int (nI bg)) → L2 5 = some (.int (nI en)) → L2 6 = some (.int (bI oe)) → L2 7 = some (.int (nI b)) → L2 8 = some (.int (nI (n + (j - i)))) → L2 9 = some (.int (nI op2)) → L2 10 = some (.int (nI (eol xs b))) → L2 11 = some (.int (wI (lw xs b))) → Ru (d + 4) mX8_findEnd 119 L2 [] (RS S r) (z_en mX8_findEnd (fun v S1 => match fnz (wsO xs) i to bg oe with
            | none => S1 = RS S r ∧ v = some (.int 0)
            | some o => S1 = RS S (rFd r (nI (lo xs o)) (nI (n + (o - i))) (nI ((wsO xs).getD o 0)) (nI (lo xs (o + 1)))) ∧ v = some (.int 1))) := by
          intro L2 op2 ho2 ho3 ho4 l0 l3 l4 l5 l6 l7 l8 l9 l10 l11
          refine r_iload dX8_findEnd_119 (by first | rfl | assumption) ?_
          refine r_iload dX8_findEnd_121 (by first | rfl | assumption) ?_
          by_cases q5 : lw xs b = en
          · refine r_icmp_ne_f (tgt := 129) dX8_findEnd_123 (by decide) ((wI_eq hw8 hen8.1 hen8.2.1).mpr q5) ?_
            have e2 := ho3 q5
            have hop1 : op2 ≠ 0 := fun z => q ⟨by omega, Or.inl q5⟩
            rw [if_pos q5] at hf1
            obtain ⟨p, hp⟩ : ∃ p, op2 = p + 1 := ⟨op2 - 1, by omega⟩
            rw [hp] at l9
            refine r_inc (nI p) dX8_findEnd_126 (by first | rfl | assumption) (by decide) (by first | exact z_c1_i (by first | rfl | assumption) | exact z_c1_r (by first | rfl | assumption) | exact z_c1_n (by first | rfl | assumption) | exact z_c1_c (by first | rfl | assumption) | exact z_c1_0 (by first | rfl | assumption)) (by rw [dec1]; exact nI_p1) ?_
            exact l129 _ p (by omega) (by rw [show p = op - 1 by omega]; exact hf1) l0 l3 l4 l5 l6 l7 l8 rfl l10
          · refine r_icmp_ne_t (tgt := 129) dX8_findEnd_123 (by decide) (fun z => q5 ((wI_eq hw8 hen8.1 hen8.2.1).mp z)) ?_
            rw [if_neg q5, ← ho4 q5] at hf1
            exact l129 _ op2 ho2 hf1 l0 l3 l4 l5 l6 l7 l8 l9 l10
        refine r_iload dX8_findEnd_102 (by first | rfl | assumption) ?_
        refine r_iload dX8_findEnd_104 (by first | rfl | assumption) ?_
        by_cases q3 : lw xs b = bg
        · refine r_icmp_ne_f (tgt := 119) dX8_findEnd_106 (by decide) ((wI_eq hw8 hen8.2.2.1 hen8.2.2.2.1).mpr q3) ?_
          refine r_iload dX8_findEnd_109 (by first | rfl | assumption) ?_
          refine r_bp (6) dX8_findEnd_111 rfl ?_
          by_cases q4 : bg = 6
          · refine r_icmp_eq_t (tgt := 119) dX8_findEnd_113 (by decide) (by rw [q4]; rfl) ?_
            exact l119 _ op (by omega) (fun _ => rfl) (fun _ => by rw [if_neg (fun z => absurd z.1 (by rw [decide_eq_false (fun w => w q4)]; exact Bool.false_ne_true))]) l0 l3 l4 l5 l6 l7 l8 l9 rfl rfl
          · refine r_icmp_eq_f (tgt := 119) dX8_findEnd_113 (by decide) (fun z => q4 ((nI_eq (b := 6) (by omega) (by decide)).mp z)) ?_
            refine r_inc (nI (op + 1)) dX8_findEnd_116 (by first | rfl | assumption) (by decide) (by first | exact z_c1_i (by first | rfl | assumption) | exact z_c1_r (by first | rfl | assumption) | exact z_c1_n (by first | rfl | assumption) | exact z_c1_c (by first | rfl | assumption) | exact z_c1_0 (by first | rfl | assumption)) (nI_1 _) ?_
            exact l119 _ (op + 1) (by omega) (fun z => absurd (z.symm.trans q3) hen8.2.2.2.2) (fun _ => by rw [if_pos ⟨decide_eq_true q4, q3⟩]) l0 l3 l4 l5 l6 l7 l8 rfl rfl rfl
        · refine r_icmp_ne_t (tgt := 119) dX8_findEnd_106 (by decide) (fun z => q3 ((wI_eq hw8 hen8.2.2.1 hen8.2.2.2.1).mp z)) ?_
          exact l119 _ op (by omega) (fun _ => rfl) (fun _ => by rw [if_neg (fun z => q3 z.2)]) l0 l3 l4 l5 l6 l7 l8 l9 rfl rfl
      by_cases q0 : op = 0
      · refine r_if_ne_f (tgt := 102) dX8_findEnd_35 (by decide) (by rw [q0]; rfl) ?_
        refine r_iload dX8_findEnd_38 (by first | rfl | assumption) ?_
        refine r_iload dX8_findEnd_40 (by first | rfl | assumption) ?_
        have l56 : (lw xs b = en ∨ (oe = true ∧ lw xs b = 2)) → Ru (d + 4) mX8_findEnd 56 (z_s1 (z_s1 L 10 (.int (nI (eol xs b)))) 11 (.int (wI (lw xs b)))) [] (RS S r) (z_en mX8_findEnd (fun v S1 => match fnz (wsO xs) i to bg oe with
            | none => S1 = RS S r ∧ v = some (.int 0)
            | some o => S1 = RS S (rFd r (nI (lo xs o)) (nI (n + (o - i))) (nI ((wsO xs).getD o 0)) (nI (lo xs (o + 1)))) ∧ v = some (.int 1))) := by
          intro q1
          rw [if_pos ⟨q0, q1⟩] at hf1
          have hwn : wI (lw xs b) = nI (lw xs b) := by
            unfold wI
            rw [if_neg (fun z => by rcases q1 with w | w; exact hen8.2.1 (w.symm.trans z); exact absurd (w.2.symm.trans z) (by decide))]
          have hln := lo_next hjc
          rw [← eb] at hln
          rw [← hf1]
          have fin : Ru (d + 4) mX8_findEnd 97 (z_s1 (z_s1 L 10 (.int (nI (eol xs b)))) 11 (.int (wI (lw xs b)))) [.int (nI (lo xs (j + 1))), .ref 165] (RS S (rF (rF (rF r 46 (nI b)) 47 (nI (n + (j - i)))) 48 (wI (lw xs b)))) (z_en mX8_findEnd (fun v S1 => match some j with
              | none => S1 = RS S r ∧ v = some (.int 0)
              | some o => S1 = RS S (rFd r (nI (lo xs o)) (nI (n + (o - i))) (nI ((wsO xs).getD o 0)) (nI (lo xs (o + 1)))) ∧ v = some (.int 1))) := by
            refine r8_put dX8_findEnd_97 zf_X8_180 (Nat.le_of_ble_eq_true rfl) rfl (⟨rfl, rfl⟩) ?_
            refine r_ic (1) dX8_findEnd_100 rfl ?_
            refine r_ireturn dX8_findEnd_101 _ rfl rfl ⟨?_, rfl⟩
            rw [hw, ← eb, hwn]
            rfl
          refine r_aload_n dX8_findEnd_56 (by first | rfl | assumption) ?_
          refine r_iload dX8_findEnd_57 (by first | rfl | assumption) ?_
          refine r8_put dX8_findEnd_59 zf_X8_171 (Nat.le_of_ble_eq_true rfl) rfl (⟨rfl, rfl⟩) ?_
          refine r_aload_n dX8_findEnd_62 (by first | rfl | assumption) ?_
          refine r_iload dX8_findEnd_63 (by first | rfl | assumption) ?_
          refine r8_put dX8_findEnd_65 zf_X8_174 (Nat.le_of_ble_eq_true rfl) rfl (⟨rfl, rfl⟩) ?_
          refine r_aload_n dX8_findEnd_68 (by first | rfl | assumption) ?_
          refine r_iload dX8_findEnd_69 (by first | rfl | assumption) ?_
          refine r8_put dX8_findEnd_71 zf_X8_177 (Nat.le_of_ble_eq_true rfl) rfl (⟨rfl, rfl⟩) ?_
          refine r_aload_n dX8_findEnd_74 (by first | rfl | assumption) ?_
          refine r_iload dX8_findEnd_75 (by first | rfl | assumption) ?_
          refine r_ic (1) dX8_findEnd_77 rfl ?_
          refine r_iadd dX8_findEnd_78 ?_
          rw [nI_1]
          refine r_aload_n dX8_findEnd_79 (by first | rfl | assumption) ?_
          refine r8_get dX8_findEnd_80 zf_X8_160 rfl ?_
          rw [show (rF (rF (rF r 46 (nI b)) 47 (nI (n + (j - i)))) 48 (wI (lw xs b))).1 4 = nI xs.length from h1]
          by_cases q9 : eol xs b + 1 ≤ xs.length
          · refine r_icmp_le_t (tgt := 93) dX8_findEnd_83 (by decide) (nI_le q9 (by omega)) ?_
            refine r_iload dX8_findEnd_93 (by first | rfl | assumption) ?_
            refine r_ic (1) dX8_findEnd_95 rfl ?_
            refine r_iadd dX8_findEnd_96 ?_
            rw [nI_1, show eol xs b + 1 = lo xs (j + 1) by omega]
            exact fin
          · refine r_icmp_le_f (tgt := 93) dX8_findEnd_83 (by decide) (nI_ge (by omega) (by omega)) ?_
            refine r_aload_n dX8_findEnd_86 (by first | rfl | assumption) ?_
            refine r8_get dX8_findEnd_87 zf_X8_160 rfl ?_
            refine r_goto (tgt := 97) dX8_findEnd_90 (by decide) ?_
            rw [show (rF (rF (rF r 46 (nI b)) 47 (nI (n + (j - i)))) 48 (wI (lw xs b))).1 4 = nI xs.length from h1, show xs.length = lo xs (j + 1) by omega]
            exact fin
        by_cases q1 : lw xs b = en
        · refine r_icmp_eq_t (tgt := 56) dX8_findEnd_42 (by decide) ((wI_eq hw8 hen8.1 hen8.2.1).mpr q1) ?_
          exact l56 (Or.inl q1)
        · refine r_icmp_eq_f (tgt := 56) dX8_findEnd_42 (by decide) (fun z => q1 ((wI_eq hw8 hen8.1 hen8.2.1).mp z)) ?_
          refine r_iload dX8_findEnd_45 (by first | rfl | assumption) ?_
          cases hoe : oe with
          | false =>
            refine r_if_eq_t (tgt := 102) dX8_findEnd_47 (by decide) (rfl) ?_
            rw [hoe] at l102
            exact l102 (fun z => z.2.elim q1 (fun w => by cases w.1))
          | true =>
            refine r_if_eq_f (tgt := 102) dX8_findEnd_47 (by decide) (show ¬ (1 : Int32) = 0 by decide) ?_
            refine r_iload dX8_findEnd_50 (by first | rfl | assumption) ?_
            refine r_ic (2) dX8_findEnd_52 rfl ?_
            by_cases q2 : lw xs b = 2
            · refine r_icmp_ne_f (tgt := 102) dX8_findEnd_53 (by decide) ((wI_eq hw8 (v := 2) (by decide) (by decide)).mpr q2) ?_
              rw [hoe] at l56
              exact l56 (Or.inr ⟨rfl, q2⟩)
            · refine r_icmp_ne_t (tgt := 102) dX8_findEnd_53 (by decide) (fun z => q2 ((wI_eq hw8 (v := 2) (by decide) (by decide)).mp z)) ?_
              rw [hoe] at l102
              exact l102 (fun z => z.2.elim q1 (fun w => q2 w.2))
      · refine r_if_ne_t (tgt := 102) dX8_findEnd_35 (by decide) (fun z => q0 ((nI_eq (b := 0) (by omega) (by decide)).mp z)) ?_
        exact l102 (fun z => q0 z.1)
  refine Rc.of ?_
  refine r_iload_n dX8_findEnd_0 (by first | rfl | assumption) ?_
  refine r_istore dX8_findEnd_1 (by decide) (by first | exact z_c1_i (by first | rfl | assumption) | exact z_c1_r (by first | rfl | assumption) | exact z_c1_n (by first | rfl | assumption) | exact z_c1_c (by first | rfl | assumption) | exact z_c1_0 (by first | rfl | assumption)) ?_
  refine r_iload_n dX8_findEnd_3 (by first | rfl | assumption) ?_
  refine r_istore dX8_findEnd_4 (by decide) (by first | exact z_c1_i (by first | rfl | assumption) | exact z_c1_r (by first | rfl | assumption) | exact z_c1_n (by first | rfl | assumption) | exact z_c1_c (by first | rfl | assumption) | exact z_c1_0 (by first | rfl | assumption)) ?_
  refine r_ic (0) dX8_findEnd_6 rfl ?_
  refine r_istore dX8_findEnd_7 (by decide) (by first | exact z_c1_i (by first | rfl | assumption) | exact z_c1_r (by first | rfl | assumption) | exact z_c1_n (by first | rfl | assumption) | exact z_c1_c (by first | rfl | assumption) | exact z_c1_0 (by first | rfl | assumption)) ?_
  refine loop (to - i) i a 0 _ rfl (Nat.le_refl _) ha (Nat.zero_le _) (by rw [hen]; rfl) rfl rfl rfl rfl rfl rfl ?_ rfl (z_c1_0 rfl)
  rw [Nat.sub_self]
  rfl
end
