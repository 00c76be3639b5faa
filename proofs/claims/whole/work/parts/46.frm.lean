/-! THE REFERENCE: frames -/
def fk (k v : Int32) : Prop := ((k = 1 ∨ k = 2) ∧ v = 1) ∨ (k = 4 ∧ v = 4) ∨ (k = 6 ∧ v = 6)
def FK (kd : Nat → Int32) (r : zR) (n : Nat) : Prop := (∀ j, j < n → fk (kd j) (r.2.1 169 j)) ∧ n ≤ 20 ∧ r.1 19 = nI n
theorem fk_1 {k v : Int32} (h : fk k v) : v = 1 ↔ hasL k = false := by
  rcases h with ⟨rfl | rfl, rfl⟩ | ⟨rfl, rfl⟩ | ⟨rfl, rfl⟩ <;> decide
theorem fk_6 {k v : Int32} (h : fk k v) : v = 6 ↔ k = 6 := by
  rcases h with ⟨rfl | rfl, rfl⟩ | ⟨rfl, rfl⟩ | ⟨rfl, rfl⟩ <;> decide
theorem fk_4 {k v : Int32} (h : fk k v) : v = 4 ↔ k = 4 := by
  rcases h with ⟨rfl | rfl, rfl⟩ | ⟨rfl, rfl⟩ | ⟨rfl, rfl⟩ <;> decide
/-- the line that is told -/
def own (kd : Nat → Int32) (r : zR) (n : Nat) : Int32 := match ouL kd n with
  | none => r.1 6
  | some j => r.2.1 175 j
section
variable {d : Nat} {S : zS} {r : zR} {kd : Nat → Int32} {n : Nat}
set_option maxRecDepth 10000 in
theorem C_X8_ownLine (h : FK kd r n) : Rc d mX8_ownLine [.ref 165] (RS S r) (fun v S1 => S1 = RS S r ∧ v = some (.int (own kd r n))) := by
  obtain ⟨h1, h2, h3⟩ := h
  have loop : ∀ (m : Nat) (x : Int32) (L : Nat → Option Value), m ≤ n → (match ouL kd m with
      | none => x
      | some j => r.2.1 175 j) = own kd r n → L 0 = some (.ref 165) → L 1 = some (.int x) → L 2 = some (.int (nI m - 1)) → Ru d mX8_ownLine 12 L [] (RS S r) (z_en mX8_ownLine (fun v S1 => S1 = RS S r ∧ v = some (.int (own kd r n)))) := by
    intro m
    induction m with
    | zero =>
      intro x L hm hx l0 l1 l2
      refine r_iload_n dX8_ownLine_12 (by first | rfl | assumption) ?_
      refine r_if_lt_t (tgt := 43) dX8_ownLine_13 (by decide) (show (nI 0 - 1 : Int32) < 0 by decide) ?_
      refine r_iload_n dX8_ownLine_43 (by first | rfl | assumption) ?_
      refine r_ireturn dX8_ownLine_44 _ rfl rfl ⟨rfl, by rw [← hx]; rfl⟩
    | succ m ih =>
      intro x L hm hx l0 l1 l2
      rw [nI_p1] at l2
      have hk := h1 m (by omega)
      have e : ouL kd (m + 1) = match ouL kd m with
        | some j => some j
        | none => if hasL (kd m) = true then some m else none := rfl
      rw [e] at hx
      refine r_iload_n dX8_ownLine_12 (by first | rfl | assumption) ?_
      refine r_if_lt_f (tgt := 43) dX8_ownLine_13 (by decide) (fun z => absurd z (Int32.not_lt.mpr (show nI 0 ≤ nI m from nI_le (Nat.zero_le _) (by omega)))) ?_
      refine r_aload_n dX8_ownLine_16 (by first | rfl | assumption) ?_
      refine r8_get dX8_ownLine_17 zf_X8_24 rfl ?_
      refine r_iload_n dX8_ownLine_20 (by first | rfl | assumption) ?_
      refine r8_iald dX8_ownLine_21 (by decide) (rfl) (by first | assumption | exact (show _ < 65536 by omega) | exact (show _ < 1100 by omega) | exact (show _ < 24 by omega) | exact (show _ < 2100 by omega) | exact (show _ < 6600 by omega) | exact (show _ < 1110 by omega)) ?_
      refine r_ic (1) dX8_ownLine_22 rfl ?_
      by_cases q : r.2.1 169 m = 1
      · refine r_icmp_ne_f (tgt := 30) dX8_ownLine_23 (by decide) (q) ?_
        have hf := (fk_1 hk).mp q
        refine r_iload_n dX8_ownLine_26 (by first | rfl | assumption) ?_
        refine r_goto (tgt := 36) dX8_ownLine_27 (by decide) ?_
        refine r_istore_n dX8_ownLine_36 (by decide) (by first | exact z_c1_i (by first | rfl | assumption) | exact z_c1_r (by first | rfl | assumption) | exact z_c1_n (by first | rfl | assumption) | exact z_c1_c (by first | rfl | assumption) | exact z_c1_0 (by first | rfl | assumption)) ?_
        refine r_inc (nI m - 1) dX8_ownLine_37 (by first | rfl | assumption) (by decide) (by first | exact z_c1_i (by first | rfl | assumption) | exact z_c1_r (by first | rfl | assumption) | exact z_c1_n (by first | rfl | assumption) | exact z_c1_c (by first | rfl | assumption) | exact z_c1_0 (by first | rfl | assumption)) (dec1 _) ?_
        refine r_goto (tgt := 12) dX8_ownLine_40 (by decide) ?_
        refine ih x _ (by omega) ?_ l0 rfl rfl
        rw [← hx]
        cases hq : ouL kd m with
        | some j => rfl
        | none => rw [hf]; rfl
      · refine r_icmp_ne_t (tgt := 30) dX8_ownLine_23 (by decide) (q) ?_
        have hf : hasL (kd m) = true := Bool.not_eq_false _ |>.mp (fun z => q ((fk_1 hk).mpr z))
        refine r_aload_n dX8_ownLine_30 (by first | rfl | assumption) ?_
        refine r8_get dX8_ownLine_31 zf_X8_43 rfl ?_
        refine r_iload_n dX8_ownLine_34 (by first | rfl | assumption) ?_
        refine r8_iald dX8_ownLine_35 (by decide) (rfl) (by first | assumption | exact (show _ < 65536 by omega) | exact (show _ < 1100 by omega) | exact (show _ < 24 by omega) | exact (show _ < 2100 by omega) | exact (show _ < 6600 by omega) | exact (show _ < 1110 by omega)) ?_
        refine r_istore_n dX8_ownLine_36 (by decide) (by first | exact z_c1_i (by first | rfl | assumption) | exact z_c1_r (by first | rfl | assumption) | exact z_c1_n (by first | rfl | assumption) | exact z_c1_c (by first | rfl | assumption) | exact z_c1_0 (by first | rfl | assumption)) ?_
        refine r_inc (nI m - 1) dX8_ownLine_37 (by first | rfl | assumption) (by decide) (by first | exact z_c1_i (by first | rfl | assumption) | exact z_c1_r (by first | rfl | assumption) | exact z_c1_n (by first | rfl | assumption) | exact z_c1_c (by first | rfl | assumption) | exact z_c1_0 (by first | rfl | assumption)) (dec1 _) ?_
        refine r_goto (tgt := 12) dX8_ownLine_40 (by decide) ?_
        refine ih _ _ (by omega) ?_ l0 rfl rfl
        rw [← hx]
        cases hq : ouL kd m with
        | some j => rfl
        | none => rw [hf]; rfl
  refine Rc.of ?_
  refine r_aload_n dX8_ownLine_0 (by first | rfl | assumption) ?_
  refine r8_get dX8_ownLine_1 zf_X8_136 rfl ?_
  refine r_istore_n dX8_ownLine_4 (by decide) (by first | exact z_c1_i (by first | rfl | assumption) | exact z_c1_r (by first | rfl | assumption) | exact z_c1_n (by first | rfl | assumption) | exact z_c1_c (by first | rfl | assumption) | exact z_c1_0 (by first | rfl | assumption)) ?_
  refine r_aload_n dX8_ownLine_5 (by first | rfl | assumption) ?_
  refine r8_get dX8_ownLine_6 zf_X8_139 rfl ?_
  refine r_ic (1) dX8_ownLine_9 rfl ?_
  refine r_isub dX8_ownLine_10 ?_
  rw [h3]
  refine r_istore_n dX8_ownLine_11 (by decide) (by first | exact z_c1_i (by first | rfl | assumption) | exact z_c1_r (by first | rfl | assumption) | exact z_c1_n (by first | rfl | assumption) | exact z_c1_c (by first | rfl | assumption) | exact z_c1_0 (by first | rfl | assumption)) ?_
  exact loop n (r.1 6) _ (Nat.le_refl _) rfl rfl rfl rfl
theorem C_X8_fail {k : Int32} (h : FK kd r n) : Rc (d + 1) mX8_fail [.ref 165, .int k] (RS S r) (fun v S1 => v = none ∧ S1 = RS S (if r.1 11 = 0 then rF (rF r 11 k) 12 (own kd r n) else r)) := by
  refine Rc.of ?_
  refine r_aload_n dX8_fail_0 (by first | rfl | assumption) ?_
  refine r8_get dX8_fail_1 zf_X8_142 rfl ?_
  by_cases q : r.1 11 = 0
  · refine r_if_eq_t (tgt := 8) dX8_fail_4 (by decide) (q) ?_
    refine r_aload_n dX8_fail_8 (by first | rfl | assumption) ?_
    refine r_iload_n dX8_fail_9 (by first | rfl | assumption) ?_
    refine r8_put dX8_fail_10 zf_X8_142 (Nat.le_of_ble_eq_true rfl) rfl (⟨rfl, rfl⟩) ?_
    refine r_aload_n dX8_fail_13 (by first | rfl | assumption) ?_
    refine r_aload_n dX8_fail_14 (by first | rfl | assumption) ?_
    have h2 : FK kd (rF r 11 k) n := h
    refine r_callV0 dX8_fail_15 zm_X8_145 RS_o rfl (Nat.le_of_ble_eq_true rfl) (Nat.le_of_ble_eq_true rfl) (C_X8_ownLine h2) (fun v S9 hv => ?_)
    obtain ⟨rfl, rfl⟩ := hv
    refine r8_put dX8_fail_18 zf_X8_149 (Nat.le_of_ble_eq_true rfl) rfl (⟨rfl, rfl⟩) ?_
    refine r_return dX8_fail_21 rfl ⟨rfl, by rw [if_pos q]; rfl⟩
  · refine r_if_eq_f (tgt := 8) dX8_fail_4 (by decide) (q) ?_
    refine r_return dX8_fail_7 rfl ⟨rfl, by rw [if_neg q]⟩
set_option maxRecDepth 10000 in
theorem C_X8_reader (h : FK kd r n) : Rc d mX8_reader [.ref 165] (RS S r) (fun v S1 => S1 = RS S r ∧ v = some (.int (oI (inL kd n)))) := by
  obtain ⟨h1, h2, h3⟩ := h
  have loop : ∀ (m : Nat) (L : Nat → Option Value), m ≤ n → inL kd m = inL kd n → L 0 = some (.ref 165) → L 1 = some (.int (nI m - 1)) → Ru d mX8_reader 7 L [] (RS S r) (z_en mX8_reader (fun v S1 => S1 = RS S r ∧ v = some (.int (oI (inL kd n))))) := by
    intro m
    induction m with
    | zero =>
      intro L hm hx l0 l1
      refine r_iload_n dX8_reader_7 (by first | rfl | assumption) ?_
      refine r_if_lt_t (tgt := 29) dX8_reader_8 (by decide) (show (nI 0 - 1 : Int32) < 0 by decide) ?_
      refine r_ic (-1) dX8_reader_29 rfl ?_
      refine r_ireturn dX8_reader_30 _ rfl rfl ⟨rfl, by rw [← hx]; rfl⟩
    | succ m ih =>
      intro L hm hx l0 l1
      rw [nI_p1] at l1
      have hk := h1 m (by omega)
      rw [inL_s] at hx
      refine r_iload_n dX8_reader_7 (by first | rfl | assumption) ?_
      refine r_if_lt_f (tgt := 29) dX8_reader_8 (by decide) (fun z => absurd z (Int32.not_lt.mpr (show nI 0 ≤ nI m from nI_le (Nat.zero_le _) (by omega)))) ?_
      refine r_aload_n dX8_reader_11 (by first | rfl | assumption) ?_
      refine r8_get dX8_reader_12 zf_X8_24 rfl ?_
      refine r_iload_n dX8_reader_15 (by first | rfl | assumption) ?_
      refine r8_iald dX8_reader_16 (by decide) (rfl) (by first | assumption | exact (show _ < 65536 by omega) | exact (show _ < 1100 by omega) | exact (show _ < 24 by omega) | exact (show _ < 2100 by omega) | exact (show _ < 6600 by omega) | exact (show _ < 1110 by omega)) ?_
      refine r_ic (1) dX8_reader_17 rfl ?_
      by_cases q : r.2.1 169 m = 1
      · refine r_icmp_eq_t (tgt := 23) dX8_reader_18 (by decide) (q) ?_
        rw [if_neg (by rw [(fk_1 hk).mp q]; exact Bool.false_ne_true)] at hx
        refine r_inc (nI m - 1) dX8_reader_23 (by first | rfl | assumption) (by decide) (by first | exact z_c1_i (by first | rfl | assumption) | exact z_c1_r (by first | rfl | assumption) | exact z_c1_n (by first | rfl | assumption) | exact z_c1_c (by first | rfl | assumption) | exact z_c1_0 (by first | rfl | assumption)) (dec1 _) ?_
        refine r_goto (tgt := 7) dX8_reader_26 (by decide) ?_
        exact ih _ (by omega) hx l0 rfl
      · refine r_icmp_eq_f (tgt := 23) dX8_reader_18 (by decide) (q) ?_
        have hf : hasL (kd m) = true := Bool.not_eq_false _ |>.mp (fun z => q ((fk_1 hk).mpr z))
        rw [if_pos hf] at hx
        refine r_iload_n dX8_reader_21 (by first | rfl | assumption) ?_
        refine r_ireturn dX8_reader_22 _ rfl rfl ⟨rfl, by rw [← hx]; rfl⟩
  refine Rc.of ?_
  refine r_aload_n dX8_reader_0 (by first | rfl | assumption) ?_
  refine r8_get dX8_reader_1 zf_X8_139 rfl ?_
  refine r_ic (1) dX8_reader_4 rfl ?_
  refine r_isub dX8_reader_5 ?_
  rw [h3]
  refine r_istore_n dX8_reader_6 (by decide) (by first | exact z_c1_i (by first | rfl | assumption) | exact z_c1_r (by first | rfl | assumption) | exact z_c1_n (by first | rfl | assumption) | exact z_c1_c (by first | rfl | assumption) | exact z_c1_0 (by first | rfl | assumption)) ?_
  exact loop n _ (Nat.le_refl _) rfl rfl rfl
theorem inM_s {kd : Nat → Int32} {n : Nat} : inM kd (n + 1) = if kd n = 6 then some n else inM kd n := rfl
set_option maxRecDepth 10000 in
theorem C_X8_macroFrame (h : FK kd r n) : Rc d mX8_macroFrame [.ref 165] (RS S r) (fun v S1 => S1 = RS S r ∧ v = some (.int (oI (inM kd n)))) := by
  obtain ⟨h1, h2, h3⟩ := h
  have loop : ∀ (m : Nat) (L : Nat → Option Value), m ≤ n → inM kd m = inM kd n → L 0 = some (.ref 165) → L 1 = some (.int (nI m - 1)) → Ru d mX8_macroFrame 7 L [] (RS S r) (z_en mX8_macroFrame (fun v S1 => S1 = RS S r ∧ v = some (.int (oI (inM kd n))))) := by
    intro m
    induction m with
    | zero =>
      intro L hm hx l0 l1
      refine r_iload_n dX8_macroFrame_7 (by first | rfl | assumption) ?_
      refine r_if_lt_t (tgt := 30) dX8_macroFrame_8 (by decide) (show (nI 0 - 1 : Int32) < 0 by decide) ?_
      refine r_ic (-1) dX8_macroFrame_30 rfl ?_
      refine r_ireturn dX8_macroFrame_31 _ rfl rfl ⟨rfl, by rw [← hx]; rfl⟩
    | succ m ih =>
      intro L hm hx l0 l1
      rw [nI_p1] at l1
      have hk := h1 m (by omega)
      rw [inM_s] at hx
      refine r_iload_n dX8_macroFrame_7 (by first | rfl | assumption) ?_
      refine r_if_lt_f (tgt := 30) dX8_macroFrame_8 (by decide) (fun z => absurd z (Int32.not_lt.mpr (show nI 0 ≤ nI m from nI_le (Nat.zero_le _) (by omega)))) ?_
      refine r_aload_n dX8_macroFrame_11 (by first | rfl | assumption) ?_
      refine r8_get dX8_macroFrame_12 zf_X8_24 rfl ?_
      refine r_iload_n dX8_macroFrame_15 (by first | rfl | assumption) ?_
      refine r8_iald dX8_macroFrame_16 (by decide) (rfl) (by first | assumption | exact (show _ < 65536 by omega) | exact (show _ < 1100 by omega) | exact (show _ < 24 by omega) | exact (show _ < 2100 by omega) | exact (show _ < 6600 by omega) | exact (show _ < 1110 by omega)) ?_
      refine r_bp (6) dX8_macroFrame_17 rfl ?_
      by_cases q : r.2.1 169 m = 6
      · refine r_icmp_ne_f (tgt := 24) dX8_macroFrame_19 (by decide) (q) ?_
        rw [if_pos ((fk_6 hk).mp q)] at hx
        refine r_iload_n dX8_macroFrame_22 (by first | rfl | assumption) ?_
        refine r_ireturn dX8_macroFrame_23 _ rfl rfl ⟨rfl, by rw [← hx]; rfl⟩
      · refine r_icmp_ne_t (tgt := 24) dX8_macroFrame_19 (by decide) (q) ?_
        rw [if_neg (fun z => q ((fk_6 hk).mpr z))] at hx
        refine r_inc (nI m - 1) dX8_macroFrame_24 (by first | rfl | assumption) (by decide) (by first | exact z_c1_i (by first | rfl | assumption) | exact z_c1_r (by first | rfl | assumption) | exact z_c1_n (by first | rfl | assumption) | exact z_c1_c (by first | rfl | assumption) | exact z_c1_0 (by first | rfl | assumption)) (dec1 _) ?_
        refine r_goto (tgt := 7) dX8_macroFrame_27 (by decide) ?_
        exact ih _ (by omega) hx l0 rfl
  refine Rc.of ?_
  refine r_aload_n dX8_macroFrame_0 (by first | rfl | assumption) ?_
  refine r8_get dX8_macroFrame_1 zf_X8_139 rfl ?_
  refine r_ic (1) dX8_macroFrame_4 rfl ?_
  refine r_isub dX8_macroFrame_5 ?_
  rw [h3]
  refine r_istore_n dX8_macroFrame_6 (by decide) (by first | exact z_c1_i (by first | rfl | assumption) | exact z_c1_r (by first | rfl | assumption) | exact z_c1_n (by first | rfl | assumption) | exact z_c1_c (by first | rfl | assumption) | exact z_c1_0 (by first | rfl | assumption)) ?_
  exact loop n _ (Nat.le_refl _) rfl rfl rfl
end
