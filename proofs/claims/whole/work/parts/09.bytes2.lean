/-! the first place from i on, ahead of the end, where p isn't so -/
def skp (p : Nat → Bool) : Nat → Nat → Nat
  | 0, i => i
  | k + 1, i => if p i then skp p k (i + 1) else i
def skB (xs : List Nat) (i : Nat) : Nat := skp (fun k => fBl (nI (xs.getD k 0))) (xs.length - i) i
def skN (xs : List Nat) (i : Nat) : Nat := skp (fun k => fNm (nI (xs.getD k 0))) (xs.length - i) i
theorem skp_le (p : Nat → Bool) : ∀ k i, i ≤ skp p k i ∧ skp p k i ≤ i + k
  | 0, i => ⟨Nat.le_refl _, Nat.le_refl _⟩
  | k + 1, i => by
    unfold skp
    split
    · have := skp_le p k (i + 1); omega
    · omega
set_option maxRecDepth 10000 in
theorem C_X0_behindBlanks {d : Nat} {S : zS} {b r cap lim a : Nat} {xs : List Nat} (h : isB S b r cap lim xs) (ha : a < 2 ^ 20) : Rc (d + 1) mX0_behindBlanks [.ref b, .int (nI a)] S (fun v S1 => S1 = S ∧ v = some (.int (nI (skB xs a)))) := by
  have h9 := h
  obtain ⟨hb, ⟨g, hr, hg⟩, h1, h2, h3, h4⟩ := h9
  refine Rc.of ?_
  have loop : ∀ (k i : Nat) (L : Nat → Option Value), xs.length - i = k → i < 2 ^ 21 → skp (fun k => fBl (nI (xs.getD k 0))) k i = skB xs a → L 0 = some (.ref b) → L 1 = some (.int (nI a)) → L 2 = some (.int (nI i)) → Ru (d + 1) mX0_behindBlanks 2 L [] S (z_en mX0_behindBlanks (fun v S1 => S1 = S ∧ v = some (.int (nI (skB xs a))))) := by
    intro k
    induction k with
    | zero =>
      intro i L hk hi hs l0 l1 l2
      refine r_iload_n dX0_behindBlanks_2 (by first | rfl | assumption) ?_
      refine r_aload_n dX0_behindBlanks_3 (by first | rfl | assumption) ?_
      refine r_getf dX0_behindBlanks_4 zf_X0_23 (by assumption) rfl ?_
      refine r_icmp_ge_t (tgt := 27) dX0_behindBlanks_7 (by decide) (nI_le (a := xs.length) (b := i) (by omega) (by omega)) ?_
      refine r_iload_n dX0_behindBlanks_27 (by first | rfl | assumption) ?_
      refine r_ireturn dX0_behindBlanks_28 _ rfl rfl ⟨rfl, by rw [← hs]; rfl⟩
    | succ k ih =>
      intro i L hk hi hs l0 l1 l2
      refine r_iload_n dX0_behindBlanks_2 (by first | rfl | assumption) ?_
      refine r_aload_n dX0_behindBlanks_3 (by first | rfl | assumption) ?_
      refine r_getf dX0_behindBlanks_4 zf_X0_23 (by assumption) rfl ?_
      refine r_icmp_ge_f (tgt := 27) dX0_behindBlanks_7 (by decide) (nI_ge (a := i) (b := xs.length) (by omega) (by omega)) ?_
      refine r_aload_n dX0_behindBlanks_10 (by first | rfl | assumption) ?_
      refine r_iload_n dX0_behindBlanks_11 (by first | rfl | assumption) ?_
      refine r_callV1 dX0_behindBlanks_12 zm_X0_35 (by assumption) rfl (Nat.le_of_ble_eq_true rfl) (Nat.le_of_ble_eq_true rfl) (C_X0_at h) (fun v S1 hv => ?_)
      obtain ⟨rfl, rfl⟩ := hv
      refine r_callSN1 dX0_behindBlanks_15 zm_X0_44 (Nat.le_of_ble_eq_true rfl) (Nat.le_of_ble_eq_true rfl) (C_X7_isBlank) (fun v S1 hv => ?_)
      obtain ⟨rfl, rfl⟩ := hv
      rw [bAt_in (by omega) (by omega)]
      unfold skp at hs
      refine r_if_eq (tgt := 27) dX0_behindBlanks_18 (by decide) (fun c18 => ?_) (fun c18 => ?_)
      · rw [bI_0] at c18
        rw [if_neg (by rw [c18]; decide)] at hs
        refine r_iload_n dX0_behindBlanks_27 (by first | rfl | assumption) ?_
        refine r_ireturn dX0_behindBlanks_28 _ rfl rfl ⟨rfl, by rw [← hs]⟩
      · rw [bI_0, Bool.not_eq_false] at c18
        rw [if_pos c18] at hs
        refine r_inc (nI (i + 1)) dX0_behindBlanks_21 (by first | rfl | assumption) (by decide) (by first | exact z_c1_i (by first | rfl | assumption) | exact z_c1_r (by first | rfl | assumption) | exact z_c1_n (by first | rfl | assumption) | exact z_c1_c (by first | rfl | assumption) | exact z_c1_0 (by first | rfl | assumption)) (nI_1 i) ?_
        refine r_goto (tgt := 2) dX0_behindBlanks_24 (by decide) ?_
        exact ih (i + 1) _ (by omega) (by omega) hs l0 l1 rfl
  refine r_iload_n dX0_behindBlanks_0 (by first | rfl | assumption) ?_
  refine r_istore_n dX0_behindBlanks_1 (by decide) (by first | exact z_c1_i (by first | rfl | assumption) | exact z_c1_r (by first | rfl | assumption) | exact z_c1_n (by first | rfl | assumption) | exact z_c1_c (by first | rfl | assumption) | exact z_c1_0 (by first | rfl | assumption)) ?_
  exact loop _ a _ rfl (by omega) rfl rfl rfl rfl
set_option maxRecDepth 10000 in
theorem C_X0_behindNameBytes {d : Nat} {S : zS} {b r cap lim a : Nat} {xs : List Nat} (h : isB S b r cap lim xs) (ha : a < 2 ^ 20) : Rc (d + 2) mX0_behindNameBytes [.ref b, .int (nI a)] S (fun v S1 => S1 = S ∧ v = some (.int (nI (skN xs a)))) := by
  have h9 := h
  obtain ⟨hb, ⟨g, hr, hg⟩, h1, h2, h3, h4⟩ := h9
  refine Rc.of ?_
  have loop : ∀ (k i : Nat) (L : Nat → Option Value), xs.length - i = k → i < 2 ^ 21 → skp (fun k => fNm (nI (xs.getD k 0))) k i = skN xs a → L 0 = some (.ref b) → L 1 = some (.int (nI a)) → L 2 = some (.int (nI i)) → Ru (d + 2) mX0_behindNameBytes 2 L [] S (z_en mX0_behindNameBytes (fun v S1 => S1 = S ∧ v = some (.int (nI (skN xs a))))) := by
    intro k
    induction k with
    | zero =>
      intro i L hk hi hs l0 l1 l2
      refine r_iload_n dX0_behindNameBytes_2 (by first | rfl | assumption) ?_
      refine r_aload_n dX0_behindNameBytes_3 (by first | rfl | assumption) ?_
      refine r_getf dX0_behindNameBytes_4 zf_X0_23 (by assumption) rfl ?_
      refine r_icmp_ge_t (tgt := 27) dX0_behindNameBytes_7 (by decide) (nI_le (a := xs.length) (b := i) (by omega) (by omega)) ?_
      refine r_iload_n dX0_behindNameBytes_27 (by first | rfl | assumption) ?_
      refine r_ireturn dX0_behindNameBytes_28 _ rfl rfl ⟨rfl, by rw [← hs]; rfl⟩
    | succ k ih =>
      intro i L hk hi hs l0 l1 l2
      refine r_iload_n dX0_behindNameBytes_2 (by first | rfl | assumption) ?_
      refine r_aload_n dX0_behindNameBytes_3 (by first | rfl | assumption) ?_
      refine r_getf dX0_behindNameBytes_4 zf_X0_23 (by assumption) rfl ?_
      refine r_icmp_ge_f (tgt := 27) dX0_behindNameBytes_7 (by decide) (nI_ge (a := i) (b := xs.length) (by omega) (by omega)) ?_
      refine r_aload_n dX0_behindNameBytes_10 (by first | rfl | assumption) ?_
      refine r_iload_n dX0_behindNameBytes_11 (by first | rfl | assumption) ?_
      refine r_callV1 dX0_behindNameBytes_12 zm_X0_35 (by assumption) rfl (Nat.le_of_ble_eq_true rfl) (Nat.le_of_ble_eq_true rfl) (C_X0_at h) (fun v S1 hv => ?_)
      obtain ⟨rfl, rfl⟩ := hv
      refine r_callSN1 dX0_behindNameBytes_15 zm_X0_49 (Nat.le_of_ble_eq_true rfl) (Nat.le_of_ble_eq_true rfl) (C_X7_isNameByte) (fun v S1 hv => ?_)
      obtain ⟨rfl, rfl⟩ := hv
      rw [bAt_in (by omega) (by omega)]
      unfold skp at hs
      refine r_if_eq (tgt := 27) dX0_behindNameBytes_18 (by decide) (fun c18 => ?_) (fun c18 => ?_)
      · rw [bI_0] at c18
        rw [if_neg (by rw [c18]; decide)] at hs
        refine r_iload_n dX0_behindNameBytes_27 (by first | rfl | assumption) ?_
        refine r_ireturn dX0_behindNameBytes_28 _ rfl rfl ⟨rfl, by rw [← hs]⟩
      · rw [bI_0, Bool.not_eq_false] at c18
        rw [if_pos c18] at hs
        refine r_inc (nI (i + 1)) dX0_behindNameBytes_21 (by first | rfl | assumption) (by decide) (by first | exact z_c1_i (by first | rfl | assumption) | exact z_c1_r (by first | rfl | assumption) | exact z_c1_n (by first | rfl | assumption) | exact z_c1_c (by first | rfl | assumption) | exact z_c1_0 (by first | rfl | assumption)) (nI_1 i) ?_
        refine r_goto (tgt := 2) dX0_behindNameBytes_24 (by decide) ?_
        exact ih (i + 1) _ (by omega) (by omega) hs l0 l1 rfl
  refine r_iload_n dX0_behindNameBytes_0 (by first | rfl | assumption) ?_
  refine r_istore_n dX0_behindNameBytes_1 (by decide) (by first | exact z_c1_i (by first | rfl | assumption) | exact z_c1_r (by first | rfl | assumption) | exact z_c1_n (by first | rfl | assumption) | exact z_c1_c (by first | rfl | assumption) | exact z_c1_0 (by first | rfl | assumption)) ?_
  exact loop _ a _ rfl (by omega) rfl rfl rfl rfl
