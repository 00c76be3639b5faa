theorem vP.tr {S S1 S2 : zS} {E E1 E2 : zE} {lB lI X : List Nat} {B C : Nat} (h : vP S E lB lI B C X S1 E1) (k : vP S1 E1 lB lI B C X S2 E2) : vP S E lB lI B C X S2 E2 := ⟨k.1, h.2.tr k.2⟩
theorem vP.mono {S S1 : zS} {E E1 : zE} {lB lI X Y : List Nat} {B C : Nat} (h : vP S E lB lI B C X S1 E1) (hs : ∀ x ∈ X, x ∈ Y) : vP S E lB lI B C Y S1 E1 := ⟨h.1, h.2.mono hs⟩
theorem vP.nil {S S1 : zS} {E E1 : zE} {lB lI Y : List Nat} {B C : Nat} (h : vP S E lB lI B C [] S1 E1) : vP S E lB lI B C Y S1 E1 := h.mono (fun _ q => by cases q)
theorem vP.rf {S : zS} {E : zE} {lB lI X : List Nat} {B C : Nat} (h : Vw S E lB lI B C) : vP S E lB lI B C X S E := ⟨h, FrV.rf⟩
theorem vP.put {S : zS} {E : zE} {lB lI X : List Nat} {B C x : Nat} {c : zC} (h : Vw S E lB lI B C) (hx : ¬ inV E x) (hX : x ∈ X) : vP S E lB lI B C X (z_put S x c) E := ⟨h.put hx, FrV.put hX⟩
/-- the view with the lines ls -/
def ivL (iv : Nat → Option (Nat × List Int32)) (s e w : Nat) (xs : List Nat) (ls : List (Nat × Nat)) : Nat → Option (Nat × List Int32) := va_up (va_up (va_up iv s (some (65536, ls.map fun q => nI q.1))) e (some (65536, ls.map fun q => nI q.2))) w (some (65536, ls.map fun q => nI (lw xs q.1)))
theorem ivL_s {iv : Nat → Option (Nat × List Int32)} {s e w : Nat} {xs : List Nat} {ls : List (Nat × Nat)} (n1 : e ≠ s) (n2 : w ≠ s) : ivL iv s e w xs ls s = some (65536, ls.map fun q => nI q.1) := by
  unfold ivL
  rw [va_up_ne _ _ n2.symm, va_up_ne _ _ n1.symm, va_up_self]
theorem ivL_e {iv : Nat → Option (Nat × List Int32)} {s e w : Nat} {xs : List Nat} {ls : List (Nat × Nat)} (n3 : w ≠ e) : ivL iv s e w xs ls e = some (65536, ls.map fun q => nI q.2) := by
  unfold ivL
  rw [va_up_ne _ _ n3.symm, va_up_self]
theorem ivL_w {iv : Nat → Option (Nat × List Int32)} {s e w : Nat} {xs : List Nat} {ls : List (Nat × Nat)} : ivL iv s e w xs ls w = some (65536, ls.map fun q => nI (lw xs q.1)) := va_up_self _ _ _
theorem ivL_else {iv : Nat → Option (Nat × List Int32)} {s e w x : Nat} {xs : List Nat} {ls : List (Nat × Nat)} (h1 : x ≠ s) (h2 : x ≠ e) (h3 : x ≠ w) : ivL iv s e w xs ls x = iv x := by
  unfold ivL
  rw [va_up_ne _ _ h3, va_up_ne _ _ h2, va_up_ne _ _ h1]
theorem ivL_add {iv : Nat → Option (Nat × List Int32)} {s e w : Nat} {xs : List Nat} {ls : List (Nat × Nat)} {q : Nat × Nat} : va_up (va_up (va_up (ivL iv s e w xs ls) s (some (65536, (ls.map fun q => nI q.1) ++ [nI q.1]))) e (some (65536, (ls.map fun q => nI q.2) ++ [nI q.2]))) w (some (65536, (ls.map fun q => nI (lw xs q.1)) ++ [nI (lw xs q.1)])) = ivL iv s e w xs (ls ++ [q]) := by
  funext x
  by_cases hw : x = w
  · subst hw; simp [ivL, va_up]
  · by_cases he : x = e
    · subst he; simp [ivL, va_up, hw]
    · by_cases hs : x = s
      · subst hs; simp [ivL, va_up, hw, he]
      · simp [ivL, va_up, hw, he, hs]
set_option maxRecDepth 10000 in
set_option maxHeartbeats 2000000 in
theorem V_X5_exchange {d : Nat} {S : zS} {E : zE} {lB lI : List Nat} {B C src s e w b0 b lim : Nat} {ss es ws : List Int32} {xs : List Nat} (h : isS S src s e w b0) (hl : src < S.1) (hV : Vw S E lB lI B C) (hs : E.2.1 s = some (65536, ss)) (he : E.2.1 e = some (65536, es)) (hw : E.2.1 w = some (65536, ws)) (hb : E.1 b = some (lim, xs)) (n1 : e ≠ s) (n2 : w ≠ s) (n3 : w ≠ e) : Rc (d + 8) mX5_exchange [.ref src, .ref b] S (fun v S1 => v = some (.ref b0) ∧ isS S1 src s e w b ∧ vQ S E lB lI B C [src] S1 E.1 (ivL E.2.1 s e w xs (lnz xs))) := by
  have h : S.2.2 src = .inr (6, [.ref s, .ref e, .ref w, .ref b0]) := h
  have hxl : xs.length ≤ 65536 := by
    have k := (hV.b hb).1
    exact Nat.le_trans k.2.2.2.1 k.2.2.2.2.2
  have hX : src ∈ [src] := List.mem_singleton.mpr rfl
  refine Rc.of ?_
  refine r_aload_n dX5_exchange_0 (by first | rfl | assumption) ?_
  refine r_getf dX5_exchange_1 zf_X5_30 (by assumption) rfl ?_
  refine r_astore_n dX5_exchange_4 (by decide) (by first | exact z_c1_i (by first | rfl | assumption) | exact z_c1_r (by first | rfl | assumption) | exact z_c1_n (by first | rfl | assumption) | exact z_c1_c (by first | rfl | assumption) | exact z_c1_0 (by first | rfl | assumption)) ?_
  refine r_aload_n dX5_exchange_5 (by first | rfl | assumption) ?_
  refine r_aload_n dX5_exchange_6 (by first | rfl | assumption) ?_
  refine r_putf dX5_exchange_7 zf_X5_30 (by assumption) (Nat.le_of_ble_eq_true rfl) ⟨rfl, rfl⟩ ?_
  have hP0 : vP S E lB lI B C [src] (z_put S src (.inr (6, [.ref s, .ref e, .ref w, .ref b]))) E := vP.put hV (hV.raw h (by decide) (by decide)) hX
  have h0 : (z_put S src (.inr (6, [.ref s, .ref e, .ref w, .ref b]))).2.2 src = .inr (6, [.ref s, .ref e, .ref w, .ref b]) := va_up_self _ _ _
  show Ru (d + 8) mX5_exchange _ _ _ (z_put S src (.inr (6, [.ref s, .ref e, .ref w, .ref b]))) _
  generalize z_put S src (.inr (6, [.ref s, .ref e, .ref w, .ref b])) = S0 at hP0 h0 ⊢
  have l0 := hP0.lt hl
  have c1 := (hP0.1.i hs).1.1
  refine r_aload_n dX5_exchange_10 (by first | rfl | assumption) ?_
  refine r_getf dX5_exchange_11 zf_X5_12 (by assumption) rfl ?_
  refine r_callV0 dX5_exchange_14 zm_X5_34 (by assumption) rfl (Nat.le_of_ble_eq_true rfl) (Nat.le_of_ble_eq_true rfl) (V_X1_clear hP0.1 hs) (fun v S1 hv => ?_)
  obtain ⟨rfl, rc1, hQ1⟩ := hv
  have h1 := hQ1.raw hP0.1 h0 (by decide) (by decide) l0 (by simp)
  have he1 : (eI E s (65536, []) rc1).2.1 e = some (65536, es) := (va_up_ne _ _ n1).trans he
  have hw1 : (eI E s (65536, []) rc1).2.1 w = some (65536, ws) := (va_up_ne _ _ n2).trans hw
  have l1 := hQ1.lt l0
  have c2 := (hQ1.1.i he1).1.1
  refine r_aload_n dX5_exchange_17 (by first | rfl | assumption) ?_
  refine r_getf dX5_exchange_18 zf_X5_18 (by assumption) rfl ?_
  refine r_callV0 dX5_exchange_21 zm_X5_34 (by assumption) rfl (Nat.le_of_ble_eq_true rfl) (Nat.le_of_ble_eq_true rfl) (V_X1_clear hQ1.1 he1) (fun v S2 hv => ?_)
  obtain ⟨rfl, rc2, hQ2⟩ := hv
  have h2 := hQ2.raw hQ1.1 h1 (by decide) (by decide) l1 (by simp)
  have hw2 : (eI (eI E s (65536, []) rc1) e (65536, []) rc2).2.1 w = some (65536, ws) := (va_up_ne _ _ n3).trans hw1
  have l2 := hQ2.lt l1
  have c3 := (hQ2.1.i hw2).1.1
  refine r_aload_n dX5_exchange_24 (by first | rfl | assumption) ?_
  refine r_getf dX5_exchange_25 zf_X5_21 (by assumption) rfl ?_
  refine r_callV0 dX5_exchange_28 zm_X5_34 (by assumption) rfl (Nat.le_of_ble_eq_true rfl) (Nat.le_of_ble_eq_true rfl) (V_X1_clear hQ2.1 hw2) (fun v S3 hv => ?_)
  obtain ⟨rfl, rc3, hQ3⟩ := hv
  have h3 := hQ3.raw hQ2.1 h2 (by decide) (by decide) l2 (by simp)
  have hP3 := ((hP0.tr hQ1.nil).tr hQ2.nil).tr hQ3.nil
  have tail : ∀ (st : Nat) (S2 : zS) (E2 : zE) (ls : List (Nat × Nat)) (L : Nat → Option Value), st ≤ xs.length → ls.length ≤ st → vP S E lB lI B C [src] S2 E2 → E2.1 = E.1 → E2.2.1 = ivL E.2.1 s e w xs ls → S2.2.2 src = .inr (6, [.ref s, .ref e, .ref w, .ref b]) → ls ++ (if st < xs.length then [(st, xs.length)] else []) = lnz xs → L 0 = some (.ref src) → L 2 = some (.ref b0) → L 3 = some (.int (nI st)) → Ru (d + 8) mX5_exchange 80 L [] S2 (z_en mX5_exchange (fun v S1 => v = some (.ref b0) ∧ isS S1 src s e w b ∧ vQ S E lB lI B C [src] S1 E.1 (ivL E.2.1 s e w xs (lnz xs)))) := by
    intro st S2 E2 ls L hst hls hP hb2 hi2 h2 hln g0 g2 g3
    have kb := (hP.1.b (o := b) (lim := lim) (xs := xs) (by rw [hb2]; exact hb)).1
    have kb1 := kb.1
    refine r_iload_n dX5_exchange_80 (by first | rfl | assumption) ?_
    refine r_aload_n dX5_exchange_81 (by first | rfl | assumption) ?_
    refine r_getf dX5_exchange_82 zf_X5_30 (by assumption) rfl ?_
    refine r_callV0 dX5_exchange_85 zm_X5_37 (by assumption) rfl (Nat.le_of_ble_eq_true rfl) (Nat.le_of_ble_eq_true rfl) (C_X0_size kb) (fun v S9 hv => ?_)
    obtain ⟨rfl, rfl⟩ := hv
    by_cases q : st < xs.length
    · rw [if_pos q] at hln
      refine r_icmp_ge_f (tgt := 103) dX5_exchange_88 (by decide) (nI_ge q (by omega)) ?_
      refine r_aload_n dX5_exchange_91 (by first | rfl | assumption) ?_
      refine r_iload_n dX5_exchange_92 (by first | rfl | assumption) ?_
      refine r_aload_n dX5_exchange_93 (by first | rfl | assumption) ?_
      refine r_getf dX5_exchange_94 zf_X5_30 (by assumption) rfl ?_
      refine r_callV0 dX5_exchange_97 zm_X5_37 (by assumption) rfl (Nat.le_of_ble_eq_true rfl) (Nat.le_of_ble_eq_true rfl) (C_X0_size kb) (fun v S8 hv => ?_)
      obtain ⟨rfl, rfl⟩ := hv
      refine r_callV2 dX5_exchange_100 zm_X5_45 (by assumption) rfl (Nat.le_of_ble_eq_true rfl) (Nat.le_of_ble_eq_true rfl) (V_X5_addLine (bs := 65536) (be := 65536) (bw := 65536) (ss := ls.map fun q => nI q.1) (es := ls.map fun q => nI q.2) (ws := ls.map fun q => nI (lw xs q.1)) h2 (hP.lt hl) hP.1 (by rw [hi2]; exact ivL_s n1 n2) (by rw [hi2]; exact ivL_e n3) (by rw [hi2]; exact ivL_w) (by rw [hb2]; exact hb) n1 n2 n3 (by rw [List.length_map]; omega) (by rw [List.length_map]; omega) (by rw [List.length_map]; omega) hst) (fun v S7 hv => ?_)
      obtain ⟨rfl, h7, E7, hP7, hb7, hi7⟩ := hv
      refine r_aload_n dX5_exchange_103 (by first | rfl | assumption) ?_
      refine r_areturn dX5_exchange_104 _ rfl (by first | exact Or.inl ⟨_, rfl⟩ | exact Or.inr ⟨_, rfl⟩) (by first | exact Or.inr (Or.inl ⟨_, rfl⟩) | exact Or.inl rfl | exact Or.inr (Or.inr ⟨_, rfl⟩)) ⟨rfl, h7, E7, hP.tr hP7.nil, hb7.trans hb2, ?_⟩
      rw [hi7, hi2, ivL_add (q := (st, xs.length)), hln]
    · rw [if_neg q, List.append_nil] at hln
      refine r_icmp_ge_t (tgt := 103) dX5_exchange_88 (by decide) (nI_le (show xs.length ≤ st by omega) (by omega)) ?_
      refine r_aload_n dX5_exchange_103 (by first | rfl | assumption) ?_
      refine r_areturn dX5_exchange_104 _ rfl (by first | exact Or.inl ⟨_, rfl⟩ | exact Or.inr ⟨_, rfl⟩) (by first | exact Or.inr (Or.inl ⟨_, rfl⟩) | exact Or.inl rfl | exact Or.inr (Or.inr ⟨_, rfl⟩)) ⟨rfl, h2, E2, hP, hb2, by rw [hi2, hln]⟩
  have loop : ∀ (k i st : Nat) (S2 : zS) (E2 : zE) (ls : List (Nat × Nat)) (L : Nat → Option Value), xs.length - i = k → i ≤ xs.length → st ≤ i → ls.length ≤ st → vP S E lB lI B C [src] S2 E2 → E2.1 = E.1 → E2.2.1 = ivL E.2.1 s e w xs ls → S2.2.2 src = .inr (6, [.ref s, .ref e, .ref w, .ref b]) → ls ++ lnA xs k i st = lnz xs → L 0 = some (.ref src) → L 2 = some (.ref b0) → L 3 = some (.int (nI st)) → L 4 = some (.int (nI i)) → Ru (d + 8) mX5_exchange 36 L [] S2 (z_en mX5_exchange (fun v S1 => v = some (.ref b0) ∧ isS S1 src s e w b ∧ vQ S E lB lI B C [src] S1 E.1 (ivL E.2.1 s e w xs (lnz xs)))) := by
    intro k
    induction k with
    | zero =>
      intro i st S2 E2 ls L hk hi hst hls hP hb2 hi2 h2 hln g0 g2 g3 g4
      have kb := (hP.1.b (o := b) (lim := lim) (xs := xs) (by rw [hb2]; exact hb)).1
      have kb1 := kb.1
      refine r_iload dX5_exchange_36 (by first | rfl | assumption) ?_
      refine r_aload_n dX5_exchange_38 (by first | rfl | assumption) ?_
      refine r_getf dX5_exchange_39 zf_X5_30 (by assumption) rfl ?_
      refine r_callV0 dX5_exchange_42 zm_X5_37 (by assumption) rfl (Nat.le_of_ble_eq_true rfl) (Nat.le_of_ble_eq_true rfl) (C_X0_size kb) (fun v S9 hv => ?_)
      obtain ⟨rfl, rfl⟩ := hv
      refine r_icmp_ge_t (tgt := 80) dX5_exchange_45 (by decide) (nI_le (show xs.length ≤ i by omega) (by omega)) ?_
      exact tail st _ E2 ls L (by omega) hls hP hb2 hi2 h2 hln g0 g2 g3
    | succ k ih =>
      intro i st S2 E2 ls L hk hi hst hls hP hb2 hi2 h2 hln g0 g2 g3 g4
      have kb := (hP.1.b (o := b) (lim := lim) (xs := xs) (by rw [hb2]; exact hb)).1
      have kb1 := kb.1
      refine r_iload dX5_exchange_36 (by first | rfl | assumption) ?_
      refine r_aload_n dX5_exchange_38 (by first | rfl | assumption) ?_
      refine r_getf dX5_exchange_39 zf_X5_30 (by assumption) rfl ?_
      refine r_callV0 dX5_exchange_42 zm_X5_37 (by assumption) rfl (Nat.le_of_ble_eq_true rfl) (Nat.le_of_ble_eq_true rfl) (C_X0_size kb) (fun v S9 hv => ?_)
      obtain ⟨rfl, rfl⟩ := hv
      refine r_icmp_ge_f (tgt := 80) dX5_exchange_45 (by decide) (nI_ge (show i < xs.length by omega) (by omega)) ?_
      refine r_aload_n dX5_exchange_48 (by first | rfl | assumption) ?_
      refine r_getf dX5_exchange_49 zf_X5_30 (by assumption) rfl ?_
      refine r_iload dX5_exchange_52 (by first | rfl | assumption) ?_
      refine r_callV1 dX5_exchange_54 zm_X5_41 (by assumption) rfl (Nat.le_of_ble_eq_true rfl) (Nat.le_of_ble_eq_true rfl) (C_X0_at kb) (fun v S9 hv => ?_)
      obtain ⟨rfl, rfl⟩ := hv
      rw [bAt_in (by omega) (by omega)]
      have hc : xs.getD i 0 < 256 := by
        obtain ⟨-, ⟨g, -, h8⟩, -⟩ := kb
        exact (h8 i (by omega)).1
      unfold lnA at hln
      refine r_bp (10) dX5_exchange_57 rfl ?_
      by_cases q : xs.getD i 0 = 10
      · rw [if_pos q] at hln
        refine r_icmp_ne_f (tgt := 74) dX5_exchange_59 (by decide) (by rw [q]; rfl) ?_
        refine r_aload_n dX5_exchange_62 (by first | rfl | assumption) ?_
        refine r_iload_n dX5_exchange_63 (by first | rfl | assumption) ?_
        refine r_iload dX5_exchange_64 (by first | rfl | assumption) ?_
        refine r_callV2 dX5_exchange_66 zm_X5_45 (by assumption) rfl (Nat.le_of_ble_eq_true rfl) (Nat.le_of_ble_eq_true rfl) (V_X5_addLine (bs := 65536) (be := 65536) (bw := 65536) (ss := ls.map fun q => nI q.1) (es := ls.map fun q => nI q.2) (ws := ls.map fun q => nI (lw xs q.1)) h2 (hP.lt hl) hP.1 (by rw [hi2]; exact ivL_s n1 n2) (by rw [hi2]; exact ivL_e n3) (by rw [hi2]; exact ivL_w) (by rw [hb2]; exact hb) n1 n2 n3 (by rw [List.length_map]; omega) (by rw [List.length_map]; omega) (by rw [List.length_map]; omega) (show st ≤ xs.length by omega)) (fun v S7 hv => ?_)
        obtain ⟨rfl, h7, E7, hP7, hb7, hi7⟩ := hv
        refine r_iload dX5_exchange_69 (by first | rfl | assumption) ?_
        refine r_ic (1) dX5_exchange_71 rfl ?_
        refine r_iadd dX5_exchange_72 ?_
        rw [nI_1]
        refine r_istore_n dX5_exchange_73 (by decide) (by first | exact z_c1_i (by first | rfl | assumption) | exact z_c1_r (by first | rfl | assumption) | exact z_c1_n (by first | rfl | assumption) | exact z_c1_c (by first | rfl | assumption) | exact z_c1_0 (by first | rfl | assumption)) ?_
        refine r_inc (nI (i + 1)) dX5_exchange_74 (by first | rfl | assumption) (by decide) (by first | exact z_c1_i (by first | rfl | assumption) | exact z_c1_r (by first | rfl | assumption) | exact z_c1_n (by first | rfl | assumption) | exact z_c1_c (by first | rfl | assumption) | exact z_c1_0 (by first | rfl | assumption)) (nI_1 i) ?_
        refine r_goto (tgt := 36) dX5_exchange_77 (by decide) ?_
        refine ih (i + 1) (i + 1) S7 E7 (ls ++ [(st, i)]) _ (by omega) (by omega) (Nat.le_refl _) (by rw [List.length_append, List.length_singleton]; omega) (hP.tr hP7.nil) (hb7.trans hb2) ?_ h7 (by rw [List.append_assoc]; exact hln) g0 g2 rfl rfl
        rw [hi7, hi2, ivL_add (q := (st, i))]
      · rw [if_neg q] at hln
        refine r_icmp_ne_t (tgt := 74) dX5_exchange_59 (by decide) (fun q9 => q ((nI_eq (by omega) (by decide)).mp q9)) ?_
        refine r_inc (nI (i + 1)) dX5_exchange_74 (by first | rfl | assumption) (by decide) (by first | exact z_c1_i (by first | rfl | assumption) | exact z_c1_r (by first | rfl | assumption) | exact z_c1_n (by first | rfl | assumption) | exact z_c1_c (by first | rfl | assumption) | exact z_c1_0 (by first | rfl | assumption)) (nI_1 i) ?_
        refine r_goto (tgt := 36) dX5_exchange_77 (by decide) ?_
        exact ih (i + 1) st _ E2 ls _ (by omega) (by omega) (by omega) hls hP hb2 hi2 h2 hln g0 g2 g3 rfl
  refine r_ic (0) dX5_exchange_31 rfl ?_
  refine r_istore_n dX5_exchange_32 (by decide) (by first | exact z_c1_i (by first | rfl | assumption) | exact z_c1_r (by first | rfl | assumption) | exact z_c1_n (by first | rfl | assumption) | exact z_c1_c (by first | rfl | assumption) | exact z_c1_0 (by first | rfl | assumption)) ?_
  refine r_ic (0) dX5_exchange_33 rfl ?_
  refine r_istore dX5_exchange_34 (by decide) (by first | exact z_c1_i (by first | rfl | assumption) | exact z_c1_r (by first | rfl | assumption) | exact z_c1_n (by first | rfl | assumption) | exact z_c1_c (by first | rfl | assumption) | exact z_c1_0 (by first | rfl | assumption)) ?_
  refine loop _ 0 0 S3 _ [] _ rfl (Nat.zero_le _) (Nat.le_refl _) (Nat.le_refl _) hP3 rfl ?_ h3 rfl rfl rfl rfl rfl
  funext x
  simp [eI, ivL]
