section
variable {d : Nat} {S : zS} {E : zE} {lB lI : List Nat} {B C N : Nat} {Z : Nat → zC} {c : zD} {g : zG}
theorem C_X7_topKind (h : XI S E lB lI B C Z N c g) : Rc (d + 2) mX3_topKind [.ref 20] S (fun v S1 => S1 = S ∧ v = some (.int (kdA (kdG g) g.2.1))) := C_X3_topKind h.n0 h.kd
set_option maxRecDepth 10000 in
set_option maxHeartbeats 1000000 in
theorem C_X7_readElse (h : XI S E lB lI B C Z N c g) (ho : gOk c g) : Rc (d + 3) mX7_readElse [.ref 1] S (stP lB lI B C Z N c (cElse c g)) := by
  have hx := h.x0
  have hs0 := h.2.1.2.1
  have hn0 := h.n0.1
  have ht0 := h.t0
  have hsz := h.sz
  have htl := h.tl
  refine Rc.of ?_
  refine r_aload_n dX7_readElse_0 (by first | rfl | assumption) ?_
  refine r_getf dX7_readElse_1 zf_X7_37 (by assumption) rfl ?_
  refine r_callV0 dX7_readElse_4 zm_X7_222 (by assumption) rfl (Nat.le_of_ble_eq_true rfl) (Nat.le_of_ble_eq_true rfl) (C_X7_topKind h) (fun v S9 hv => ?_)
  obtain ⟨hS9, rfl⟩ := hv
  subst hS9
  refine r_ic (1) dX7_readElse_7 rfl ?_
  by_cases q1 : kdA (kdG g) g.2.1 ≠ 1
  · have e : cElse c g = (gFl g 6, 2) := if_pos q1
    rw [e]
    refine r_icmp_eq_f (tgt := 18) dX7_readElse_8 (by decide) (q1) ?_
    refine r_aload_n dX7_readElse_11 (by first | rfl | assumption) ?_
    refine r_bp (6) dX7_readElse_12 rfl ?_
    refine r_callV1 dX7_readElse_14 zm_X7_132 (by assumption) rfl (Nat.le_of_ble_eq_true rfl) (Nat.le_of_ble_eq_true rfl) (C_X7_tell (k := 6) h) (fun v S8 hv => ?_)
    obtain ⟨rfl, h3⟩ := hv
    refine r_ireturn dX7_readElse_17 _ rfl rfl ⟨rfl, E, h3⟩
  have e1 : cElse c g = if ((fz c g 1 false).isNone && (iL g).isSome) = true then (gFl g 6, 2) else if c.2.2.2.1.length ≠ 1 then (gFl g 1, 2) else match fz c g 1 false with
    | none => (gUn c g, 2)
    | some o => (gCl (gPos g (o + 1)), 0) := if_neg q1
  refine r_icmp_eq_t (tgt := 18) dX7_readElse_8 (by decide) (Decidable.not_not.mp q1) ?_
  refine r_aload_n dX7_readElse_18 (by first | rfl | assumption) ?_
  refine r_getf dX7_readElse_19 zf_X7_10 (by assumption) rfl ?_
  refine r_aload_n dX7_readElse_22 (by first | rfl | assumption) ?_
  refine r_getf dX7_readElse_23 zf_X7_69 (by assumption) rfl ?_
  refine r_aload_n dX7_readElse_26 (by first | rfl | assumption) ?_
  refine r_callV0 dX7_readElse_27 zm_X7_96 (by assumption) rfl (Nat.le_of_ble_eq_true rfl) (Nat.le_of_ble_eq_true rfl) (C_X7_limit h) (fun v S9 hv => ?_)
  obtain ⟨hS9, rfl⟩ := hv
  subst hS9
  refine r_ic (1) dX7_readElse_30 rfl ?_
  refine r_ic (0) dX7_readElse_31 rfl ?_
  refine r_callV4 dX7_readElse_32 zm_X7_198 (by assumption) rfl (Nat.le_of_ble_eq_true rfl) (Nat.le_of_ble_eq_true rfl) (C_X7_fz (bg := 1) (oe := false) h ho (Or.inl rfl)) (fun v S9 hv => ?_)
  obtain ⟨hS9, rfl⟩ := hv
  subst hS9
  refine r_istore_n dX7_readElse_35 (by decide) (by first | exact z_c1_i (by first | rfl | assumption) | exact z_c1_r (by first | rfl | assumption) | exact z_c1_n (by first | rfl | assumption) | exact z_c1_c (by first | rfl | assumption) | exact z_c1_0 (by first | rfl | assumption)) ?_
  refine r_aload_n dX7_readElse_36 (by first | rfl | assumption) ?_
  refine r_iload_n dX7_readElse_37 (by first | rfl | assumption) ?_
  refine r_callV1 dX7_readElse_38 zm_X7_202 (by assumption) rfl (Nat.le_of_ble_eq_true rfl) (Nat.le_of_ble_eq_true rfl) (C_X7_isEndMissing (fun k hk => by have := fz_lt hk; have := ho.2; omega) h) (fun v S9 hv => ?_)
  obtain ⟨hS9, rfl⟩ := hv
  subst hS9
  by_cases q2 : ((fz c g 1 false).isNone && (iL g).isSome) = true
  · rw [if_pos q2] at e1
    rw [e1]
    refine r_if_eq_f (tgt := 51) dX7_readElse_41 (by decide) (by rw [q2]; decide) ?_
    refine r_aload_n dX7_readElse_44 (by first | rfl | assumption) ?_
    refine r_bp (6) dX7_readElse_45 rfl ?_
    refine r_callV1 dX7_readElse_47 zm_X7_132 (by assumption) rfl (Nat.le_of_ble_eq_true rfl) (Nat.le_of_ble_eq_true rfl) (C_X7_tell (k := 6) h) (fun v S8 hv => ?_)
    obtain ⟨rfl, h3⟩ := hv
    refine r_ireturn dX7_readElse_50 _ rfl rfl ⟨rfl, E, h3⟩
  rw [if_neg q2] at e1
  refine r_if_eq_t (tgt := 51) dX7_readElse_41 (by decide) (by rw [Bool.eq_false_iff.mpr q2]; rfl) ?_
  refine r_aload_n dX7_readElse_51 (by first | rfl | assumption) ?_
  refine r_getf dX7_readElse_52 zf_X7_30 (by assumption) rfl ?_
  refine r_callV0 dX7_readElse_55 zm_X7_225 (by assumption) rfl (Nat.le_of_ble_eq_true rfl) (Nat.le_of_ble_eq_true rfl) (C_X6_count h.t0 h.1 h.2.2.1.2.2.2.2.2.2.2.1.1) (fun v S9 hv => ?_)
  obtain ⟨hS9, rfl⟩ := hv
  subst hS9
  rw [List.length_map]
  refine r_ic (1) dX7_readElse_58 rfl ?_
  by_cases q3 : c.2.2.2.1.length ≠ 1
  · rw [if_pos q3] at e1
    rw [e1]
    refine r_icmp_eq_f (tgt := 68) dX7_readElse_59 (by decide) (fun z => q3 ((nI_eq (b := 1) (by omega) (by decide)).mp z)) ?_
    refine r_aload_n dX7_readElse_62 (by first | rfl | assumption) ?_
    refine r_ic (1) dX7_readElse_63 rfl ?_
    refine r_callV1 dX7_readElse_64 zm_X7_132 (by assumption) rfl (Nat.le_of_ble_eq_true rfl) (Nat.le_of_ble_eq_true rfl) (C_X7_tell (k := 1) h) (fun v S8 hv => ?_)
    obtain ⟨rfl, h3⟩ := hv
    refine r_ireturn dX7_readElse_67 _ rfl rfl ⟨rfl, E, h3⟩
  rw [if_neg q3] at e1
  refine r_icmp_eq_t (tgt := 68) dX7_readElse_59 (by decide) (by rw [Decidable.not_not.mp q3]; rfl) ?_
  refine r_iload_n dX7_readElse_68 (by first | rfl | assumption) ?_
  cases hf : fz c g 1 false with
  | none =>
    rw [hf] at e1
    rw [e1]
    refine r_if_ge_f (tgt := 77) dX7_readElse_69 (by decide) (show ¬ (0 : Int32) ≤ -1 by decide) ?_
    refine r_aload_n dX7_readElse_72 (by first | rfl | assumption) ?_
    refine r_callV0 dX7_readElse_73 zm_X7_216 (by assumption) rfl (Nat.le_of_ble_eq_true rfl) (Nat.le_of_ble_eq_true rfl) (C_X7_tellUnended h) (fun v S8 hv => ?_)
    obtain ⟨rfl, h3⟩ := hv
    refine r_ireturn dX7_readElse_76 _ rfl rfl ⟨rfl, E, h3⟩
  | some o =>
    rw [hf] at e1
    have e1 : cElse c g = (gCl (gPos g (o + 1)), 0) := e1
    have hol := fz_lt hf
    have ho2 := ho.2
    rw [e1, show oI (some o) = nI o from rfl]
    refine r_if_ge_t (tgt := 77) dX7_readElse_69 (by decide) (show nI 0 ≤ nI o from nI_le (Nat.zero_le _) (by omega)) ?_
    refine r_aload_n dX7_readElse_77 (by first | rfl | assumption) ?_
    refine r_iload_n dX7_readElse_78 (by first | rfl | assumption) ?_
    refine r_ic (1) dX7_readElse_79 rfl ?_
    refine r_iadd dX7_readElse_80 ?_
    rw [nI_1]
    refine r_putf dX7_readElse_81 zf_X7_69 (by assumption) (Nat.le_of_ble_eq_true rfl) ⟨rfl, rfl⟩ ?_
    have h3 := h.pos (p := o + 1)
    show Ru _ _ _ _ _ (z_put S9 1 (xcl c (gPos g (o + 1)))) _
    generalize z_put S9 1 (xcl c (gPos g (o + 1))) = S3 at h3 ⊢
    have hx3 := h3.x0
    have hn3 := h3.n0.1
    refine r_aload_n dX7_readElse_84 (by first | rfl | assumption) ?_
    refine r_getf dX7_readElse_85 zf_X7_37 (by assumption) rfl ?_
    refine r_callV0 dX7_readElse_88 zm_X7_226 (by assumption) rfl (Nat.le_of_ble_eq_true rfl) (Nat.le_of_ble_eq_true rfl) (C_X7_close h3) (fun v S7 hv => ?_)
    obtain ⟨rfl, h4⟩ := hv
    refine r_ic (0) dX7_readElse_91 rfl ?_
    refine r_ireturn dX7_readElse_92 _ rfl rfl ⟨rfl, E, h4⟩
set_option maxRecDepth 10000 in
theorem C_X7_readEndif (h : XI S E lB lI B C Z N c g) : Rc (d + 3) mX7_readEndif [.ref 1] S (stP lB lI B C Z N c (cEndif c g)) := by
  have hx := h.x0
  have hn0 := h.n0.1
  have ht0 := h.t0
  have hsz := h.sz
  have htl := h.tl
  refine Rc.of ?_
  refine r_aload_n dX7_readEndif_0 (by first | rfl | assumption) ?_
  refine r_getf dX7_readEndif_1 zf_X7_37 (by assumption) rfl ?_
  refine r_callV0 dX7_readEndif_4 zm_X7_222 (by assumption) rfl (Nat.le_of_ble_eq_true rfl) (Nat.le_of_ble_eq_true rfl) (C_X7_topKind h) (fun v S9 hv => ?_)
  obtain ⟨hS9, rfl⟩ := hv
  subst hS9
  refine r_ic (1) dX7_readEndif_7 rfl ?_
  have go : ¬ (kdA (kdG g) g.2.1 ≠ 1 ∧ kdA (kdG g) g.2.1 ≠ 2) → Ru (d + 3) mX7_readEndif 29 (z_lf (lv_args 0 [.ref 1])) [] S9 (z_en mX7_readEndif (stP lB lI B C Z N c (cEndif c g))) := by
    intro q
    have e1 : cEndif c g = if c.2.2.2.1.length ≠ 1 then (gFl g 1, 2) else (gCl g, 0) := if_neg q
    refine r_aload_n dX7_readEndif_29 (by first | rfl | assumption) ?_
    refine r_getf dX7_readEndif_30 zf_X7_30 (by assumption) rfl ?_
    refine r_callV0 dX7_readEndif_33 zm_X7_225 (by assumption) rfl (Nat.le_of_ble_eq_true rfl) (Nat.le_of_ble_eq_true rfl) (C_X6_count h.t0 h.1 h.2.2.1.2.2.2.2.2.2.2.1.1) (fun v S9 hv => ?_)
    obtain ⟨hS9, rfl⟩ := hv
    subst hS9
    rw [List.length_map]
    refine r_ic (1) dX7_readEndif_36 rfl ?_
    by_cases q3 : c.2.2.2.1.length ≠ 1
    · rw [if_pos q3] at e1
      rw [e1]
      refine r_icmp_eq_f (tgt := 46) dX7_readEndif_37 (by decide) (fun z => q3 ((nI_eq (b := 1) (by omega) (by decide)).mp z)) ?_
      refine r_aload_n dX7_readEndif_40 (by first | rfl | assumption) ?_
      refine r_ic (1) dX7_readEndif_41 rfl ?_
      refine r_callV1 dX7_readEndif_42 zm_X7_132 (by assumption) rfl (Nat.le_of_ble_eq_true rfl) (Nat.le_of_ble_eq_true rfl) (C_X7_tell (k := 1) h) (fun v S8 hv => ?_)
      obtain ⟨rfl, h3⟩ := hv
      refine r_ireturn dX7_readEndif_45 _ rfl rfl ⟨rfl, E, h3⟩
    · rw [if_neg q3] at e1
      rw [e1]
      refine r_icmp_eq_t (tgt := 46) dX7_readEndif_37 (by decide) (by rw [Decidable.not_not.mp q3]; rfl) ?_
      refine r_aload_n dX7_readEndif_46 (by first | rfl | assumption) ?_
      refine r_getf dX7_readEndif_47 zf_X7_37 (by assumption) rfl ?_
      refine r_callV0 dX7_readEndif_50 zm_X7_226 (by assumption) rfl (Nat.le_of_ble_eq_true rfl) (Nat.le_of_ble_eq_true rfl) (C_X7_close h) (fun v S7 hv => ?_)
      obtain ⟨rfl, h4⟩ := hv
      refine r_ic (0) dX7_readEndif_53 rfl ?_
      refine r_ireturn dX7_readEndif_54 _ rfl rfl ⟨rfl, E, h4⟩
  by_cases q1 : kdA (kdG g) g.2.1 = 1
  · refine r_icmp_eq_t (tgt := 29) dX7_readEndif_8 (by decide) (q1) ?_
    exact go (fun z => z.1 q1)
  · refine r_icmp_eq_f (tgt := 29) dX7_readEndif_8 (by decide) (q1) ?_
    refine r_aload_n dX7_readEndif_11 (by first | rfl | assumption) ?_
    refine r_getf dX7_readEndif_12 zf_X7_37 (by assumption) rfl ?_
    refine r_callV0 dX7_readEndif_15 zm_X7_222 (by assumption) rfl (Nat.le_of_ble_eq_true rfl) (Nat.le_of_ble_eq_true rfl) (C_X7_topKind h) (fun v S9 hv => ?_)
    obtain ⟨hS9, rfl⟩ := hv
    subst hS9
    refine r_ic (2) dX7_readEndif_18 rfl ?_
    by_cases q2 : kdA (kdG g) g.2.1 = 2
    · refine r_icmp_eq_t (tgt := 29) dX7_readEndif_19 (by decide) (q2) ?_
      exact go (fun z => z.2 q2)
    · have e : cEndif c g = (gFl g 6, 2) := if_pos ⟨q1, q2⟩
      rw [e]
      refine r_icmp_eq_f (tgt := 29) dX7_readEndif_19 (by decide) (q2) ?_
      refine r_aload_n dX7_readEndif_22 (by first | rfl | assumption) ?_
      refine r_bp (6) dX7_readEndif_23 rfl ?_
      refine r_callV1 dX7_readEndif_25 zm_X7_132 (by assumption) rfl (Nat.le_of_ble_eq_true rfl) (Nat.le_of_ble_eq_true rfl) (C_X7_tell (k := 6) h) (fun v S8 hv => ?_)
      obtain ⟨rfl, h3⟩ := hv
      refine r_ireturn dX7_readEndif_28 _ rfl rfl ⟨rfl, E, h3⟩
theorem pcl_eq {q : zPt} {j : Nat} : pcl q j = .inr (5, [.int q.1, .int (nI q.2.1.1), .int (nI q.2.1.2.1), .int (nI q.2.1.2.2.1), .int (nI q.2.1.2.2.2), .int q.2.2.1, .int (nI q.2.2.2.1), mV q.2.2.2.2.1, .ref (23 + 7 * j), .ref (25 + 7 * j), .ref (27 + 7 * j)]) := rfl
set_option maxRecDepth 10000 in
set_option maxHeartbeats 1000000 in
theorem C_X7_readRept (h : XI S E lB lI B C Z N c g) (ho : gOk c g) : Rc (d + 3) mX7_readRept [.ref 1] S (stP lB lI B C Z N c (cRept c g)) := by
  have hx := h.x0
  have hs0 := h.2.1.2.1
  have hn0 := h.n0.1
  have ht0 := h.t0
  have hsz := h.sz
  refine Rc.of ?_
  refine r_aload_n dX7_readRept_0 (by first | rfl | assumption) ?_
  refine r_getf dX7_readRept_1 zf_X7_10 (by assumption) rfl ?_
  refine r_aload_n dX7_readRept_4 (by first | rfl | assumption) ?_
  refine r_getf dX7_readRept_5 zf_X7_69 (by assumption) rfl ?_
  refine r_aload_n dX7_readRept_8 (by first | rfl | assumption) ?_
  refine r_callV0 dX7_readRept_9 zm_X7_96 (by assumption) rfl (Nat.le_of_ble_eq_true rfl) (Nat.le_of_ble_eq_true rfl) (C_X7_limit h) (fun v S9 hv => ?_)
  obtain ⟨hS9, rfl⟩ := hv
  subst hS9
  refine r_ic (4) dX7_readRept_12 rfl ?_
  refine r_ic (0) dX7_readRept_13 rfl ?_
  refine r_callV4 dX7_readRept_14 zm_X7_198 (by assumption) rfl (Nat.le_of_ble_eq_true rfl) (Nat.le_of_ble_eq_true rfl) (C_X7_fz (bg := 4) (oe := false) h ho (Or.inr (Or.inl rfl))) (fun v S9 hv => ?_)
  obtain ⟨hS9, rfl⟩ := hv
  subst hS9
  refine r_istore_n dX7_readRept_17 (by decide) (by first | exact z_c1_i (by first | rfl | assumption) | exact z_c1_r (by first | rfl | assumption) | exact z_c1_n (by first | rfl | assumption) | exact z_c1_c (by first | rfl | assumption) | exact z_c1_0 (by first | rfl | assumption)) ?_
  refine r_aload_n dX7_readRept_18 (by first | rfl | assumption) ?_
  refine r_getf dX7_readRept_19 zf_X7_37 (by assumption) rfl ?_
  refine r_callV0 dX7_readRept_22 zm_X7_195 (by assumption) rfl (Nat.le_of_ble_eq_true rfl) (Nat.le_of_ble_eq_true rfl) (C_X3_isFull h.n0) (fun v S9 hv => ?_)
  obtain ⟨hS9, rfl⟩ := hv
  subst hS9
  have f6 : (g.2.1 = 20 ∨ ((fz c g 4 false).isNone && (iL g).isSome) = true) → ∀ L : Nat → Option Value, L 0 = some (.ref 1) → Ru (d + 3) mX7_readRept 36 L [] S9 (z_en mX7_readRept (stP lB lI B C Z N c (cRept c g))) := by
    intro q L l0
    have e : cRept c g = (gFl g 6, 2) := if_pos q
    rw [e]
    refine r_aload_n dX7_readRept_36 (by first | rfl | assumption) ?_
    refine r_bp (6) dX7_readRept_37 rfl ?_
    refine r_callV1 dX7_readRept_39 zm_X7_132 (by assumption) rfl (Nat.le_of_ble_eq_true rfl) (Nat.le_of_ble_eq_true rfl) (C_X7_tell (k := 6) h) (fun v S8 hv => ?_)
    obtain ⟨rfl, h3⟩ := hv
    refine r_ireturn dX7_readRept_42 _ rfl rfl ⟨rfl, E, h3⟩
  by_cases q1 : g.2.1 = 20
  · refine r_if_ne_t (tgt := 36) dX7_readRept_25 (by decide) (by rw [decide_eq_true q1]; decide) ?_
    exact f6 (Or.inl q1) _ rfl
  refine r_if_ne_f (tgt := 36) dX7_readRept_25 (by decide) (by rw [decide_eq_false q1]; rfl) ?_
  refine r_aload_n dX7_readRept_28 (by first | rfl | assumption) ?_
  refine r_iload_n dX7_readRept_29 (by first | rfl | assumption) ?_
  refine r_callV1 dX7_readRept_30 zm_X7_202 (by assumption) rfl (Nat.le_of_ble_eq_true rfl) (Nat.le_of_ble_eq_true rfl) (C_X7_isEndMissing (fun k hk => by have := fz_lt hk; have := ho.2; omega) h) (fun v S9 hv => ?_)
  obtain ⟨hS9, rfl⟩ := hv
  subst hS9
  by_cases q2 : ((fz c g 4 false).isNone && (iL g).isSome) = true
  · refine r_if_eq_f (tgt := 43) dX7_readRept_33 (by decide) (by rw [q2]; decide) ?_
    exact f6 (Or.inr q2) _ rfl
  refine r_if_eq_t (tgt := 43) dX7_readRept_33 (by decide) (by rw [Bool.eq_false_iff.mpr q2]; rfl) ?_
  have e1 : cRept c g = if numA c.2.2.2.1 = false then (gFl g 1, 2) else if sec7 c < 0 ∨ 4096 < sec7 c then (gFl g 7, 2) else match fz c g 4 false with
    | none => (gUn c g, 2)
    | some o => if 0 < sec7 c ∧ g.1.1 < o then (gSz (gPt g g.2.1 (4, (g.1.1, o, o + 1, g.1.2.2.2.1), (sec7 c).toInt32, (g.2.2.1 g.2.1).2.2.2)) (g.2.1 + 1), 0) else (gPos g (o + 1), 0) := if_neg (fun z => z.elim q1 q2)
  refine r_aload_n dX7_readRept_43 (by first | rfl | assumption) ?_
  refine r_callV0 dX7_readRept_44 zm_X7_205 (by assumption) rfl (Nat.le_of_ble_eq_true rfl) (Nat.le_of_ble_eq_true rfl) (C_X7_isNumberAlone h) (fun v S9 hv => ?_)
  obtain ⟨hS9, rfl⟩ := hv
  subst hS9
  by_cases q3 : numA c.2.2.2.1 = false
  · rw [if_pos q3] at e1
    rw [e1, q3]
    refine r_if_ne_f (tgt := 56) dX7_readRept_47 (by decide) (rfl) ?_
    refine r_aload_n dX7_readRept_50 (by first | rfl | assumption) ?_
    refine r_ic (1) dX7_readRept_51 rfl ?_
    refine r_callV1 dX7_readRept_52 zm_X7_132 (by assumption) rfl (Nat.le_of_ble_eq_true rfl) (Nat.le_of_ble_eq_true rfl) (C_X7_tell (k := 1) h) (fun v S8 hv => ?_)
    obtain ⟨rfl, h3⟩ := hv
    refine r_ireturn dX7_readRept_55 _ rfl rfl ⟨rfl, E, h3⟩
  rw [if_neg q3] at e1
  refine r_if_ne_t (tgt := 56) dX7_readRept_47 (by decide) (by rw [Bool.not_eq_false _ |>.mp q3]; decide) ?_
  refine r_aload_n dX7_readRept_56 (by first | rfl | assumption) ?_
  refine r_getf dX7_readRept_57 zf_X7_30 (by assumption) rfl ?_
  refine r_callV0 dX7_readRept_60 zm_X7_208 (by assumption) rfl (Nat.le_of_ble_eq_true rfl) (Nat.le_of_ble_eq_true rfl) (C_X6_second h.t0) (fun v S9 hv => ?_)
  obtain ⟨hS9, rfl⟩ := hv
  subst hS9
  have f7 : (sec7 c < 0 ∨ 4096 < sec7 c) → ∀ L : Nat → Option Value, L 0 = some (.ref 1) → Ru (d + 3) mX7_readRept 78 L [] S9 (z_en mX7_readRept (stP lB lI B C Z N c (cRept c g))) := by
    intro q L l0
    rw [if_pos q] at e1
    rw [e1]
    refine r_aload_n dX7_readRept_78 (by first | rfl | assumption) ?_
    refine r_bp (7) dX7_readRept_79 rfl ?_
    refine r_callV1 dX7_readRept_81 zm_X7_132 (by assumption) rfl (Nat.le_of_ble_eq_true rfl) (Nat.le_of_ble_eq_true rfl) (C_X7_tell (k := 7) h) (fun v S8 hv => ?_)
    obtain ⟨rfl, h3⟩ := hv
    refine r_ireturn dX7_readRept_84 _ rfl rfl ⟨rfl, E, h3⟩
  refine r_lstore_n dX7_readRept_63 (by decide) (by first | exact z_c1_i (by first | rfl | assumption) | exact z_c1_r (by first | rfl | assumption) | exact z_c1_n (by first | rfl | assumption) | exact z_c1_c (by first | rfl | assumption) | exact z_c1_0 (by first | rfl | assumption)) ?_
  refine r_lload_n dX7_readRept_64 (by first | rfl | assumption) ?_
  refine r_lc (0) dX7_readRept_65 rfl ?_
  refine r_lcmp dX7_readRept_66 ?_
  by_cases q4 : sec7 c < 0
  · refine r_if_lt_t (tgt := 78) dX7_readRept_67 (by decide) ((lg_cmp_lt _ _).mpr q4) ?_
    exact f7 (Or.inl q4) _ rfl
  refine r_if_lt_f (tgt := 78) dX7_readRept_67 (by decide) (fun z => q4 ((lg_cmp_lt _ _).mp z)) ?_
  refine r_lload_n dX7_readRept_70 (by first | rfl | assumption) ?_
  refine r_ldc2 dX7_readRept_71 zk_X7_229 ?_
  refine r_lcmp dX7_readRept_74 ?_
  by_cases q5 : 4096 < sec7 c
  · refine r_if_le_f (tgt := 85) dX7_readRept_75 (by decide) (fun z => absurd ((lg_cmp_le _ _).mp z) (Int64.not_le.mpr q5)) ?_
    exact f7 (Or.inr q5) _ rfl
  refine r_if_le_t (tgt := 85) dX7_readRept_75 (by decide) ((lg_cmp_le _ _).mpr (Int64.not_lt.mp q5)) ?_
  rw [if_neg (fun z => z.elim q4 q5)] at e1
  refine r_iload_n dX7_readRept_85 (by first | rfl | assumption) ?_
  cases hf : fz c g 4 false with
  | none =>
    rw [hf] at e1
    rw [e1]
    refine r_if_ge_f (tgt := 94) dX7_readRept_86 (by decide) (show ¬ (0 : Int32) ≤ -1 by decide) ?_
    refine r_aload_n dX7_readRept_89 (by first | rfl | assumption) ?_
    refine r_callV0 dX7_readRept_90 zm_X7_216 (by assumption) rfl (Nat.le_of_ble_eq_true rfl) (Nat.le_of_ble_eq_true rfl) (C_X7_tellUnended h) (fun v S8 hv => ?_)
    obtain ⟨rfl, h3⟩ := hv
    refine r_ireturn dX7_readRept_93 _ rfl rfl ⟨rfl, E, h3⟩
  | some o =>
    rw [hf] at e1
    have e1 : cRept c g = if 0 < sec7 c ∧ g.1.1 < o then (gSz (gPt g g.2.1 (4, (g.1.1, o, o + 1, g.1.2.2.2.1), (sec7 c).toInt32, (g.2.2.1 g.2.1).2.2.2)) (g.2.1 + 1), 0) else (gPos g (o + 1), 0) := e1
    have hol := fz_lt hf
    have ho2 := ho.2
    rw [e1, show oI (some o) = nI o from rfl]
    refine r_if_ge_t (tgt := 94) dX7_readRept_86 (by decide) (show nI 0 ≤ nI o from nI_le (Nat.zero_le _) (by omega)) ?_
    have l149 : ¬ (0 < sec7 c ∧ g.1.1 < o) → ∀ L : Nat → Option Value, L 0 = some (.ref 1) → L 1 = some (.int (nI o)) → Ru (d + 3) mX7_readRept 149 L [] S9 (z_en mX7_readRept (stP lB lI B C Z N c (if 0 < sec7 c ∧ g.1.1 < o then (gSz (gPt g g.2.1 (4, (g.1.1, o, o + 1, g.1.2.2.2.1), (sec7 c).toInt32, (g.2.2.1 g.2.1).2.2.2)) (g.2.1 + 1), 0) else (gPos g (o + 1), 0)))) := by
      intro q L l0 l1
      rw [if_neg q]
      refine r_aload_n dX7_readRept_149 (by first | rfl | assumption) ?_
      refine r_iload_n dX7_readRept_150 (by first | rfl | assumption) ?_
      refine r_ic (1) dX7_readRept_151 rfl ?_
      refine r_iadd dX7_readRept_152 ?_
      rw [nI_1]
      refine r_putf dX7_readRept_153 zf_X7_69 (by assumption) (Nat.le_of_ble_eq_true rfl) ⟨rfl, rfl⟩ ?_
      refine r_ic (0) dX7_readRept_156 rfl ?_
      have h3 := h.pos (p := o + 1)
      refine r_ireturn dX7_readRept_157 _ rfl rfl ⟨rfl, E, h3⟩
    refine r_lload_n dX7_readRept_94 (by first | rfl | assumption) ?_
    refine r_lc (0) dX7_readRept_95 rfl ?_
    refine r_lcmp dX7_readRept_96 ?_
    by_cases q6 : 0 < sec7 c
    · refine r_if_le_f (tgt := 149) dX7_readRept_97 (by decide) (fun z => absurd ((lg_cmp_le _ _).mp z) (Int64.not_le.mpr q6)) ?_
      refine r_aload_n dX7_readRept_100 (by first | rfl | assumption) ?_
      refine r_getf dX7_readRept_101 zf_X7_69 (by assumption) rfl ?_
      refine r_iload_n dX7_readRept_104 (by first | rfl | assumption) ?_
      by_cases q7 : g.1.1 < o
      · refine r_icmp_ge_f (tgt := 149) dX7_readRept_105 (by decide) (nI_ge q7 (by omega)) ?_
        rw [if_pos ⟨q6, q7⟩]
        refine r_aload_n dX7_readRept_108 (by first | rfl | assumption) ?_
        refine r_getf dX7_readRept_109 zf_X7_37 (by assumption) rfl ?_
        refine r_ic (4) dX7_readRept_112 rfl ?_
        refine r_callV1 dX7_readRept_113 zm_X7_212 (by assumption) rfl (Nat.le_of_ble_eq_true rfl) (Nat.le_of_ble_eq_true rfl) (C_X7_open (x := 4) h (by omega)) (fun v S7 hv => ?_)
        obtain ⟨rfl, h4⟩ := hv
        have hsl : g.2.1 < 20 := by omega
        have hp4 : S7.2.2 (ptN g.2.1) = pcl ((gOp g (nI 4)).2.2.1 g.2.1) g.2.1 := h4.p0 g.2.1 hsl
        rw [show (gOp g (nI 4)).2.2.1 g.2.1 = (nI 4, (g.2.2.1 g.2.1).2) from va_up_self _ _ _, pcl_eq] at hp4
        refine r_astore dX7_readRept_116 (by decide) (by first | exact z_c1_i (by first | rfl | assumption) | exact z_c1_r (by first | rfl | assumption) | exact z_c1_n (by first | rfl | assumption) | exact z_c1_c (by first | rfl | assumption) | exact z_c1_0 (by first | rfl | assumption)) ?_
        refine r_aload dX7_readRept_118 (by first | rfl | assumption) ?_
        refine r_ifnull dX7_readRept_120 ?_
        refine r_aload dX7_readRept_123 (by first | rfl | assumption) ?_
        refine r_lload_n dX7_readRept_125 (by first | rfl | assumption) ?_
        refine r_l2i dX7_readRept_126 ?_
        refine r_putf dX7_readRept_127 zf_X7_231 (by assumption) (Nat.le_of_ble_eq_true rfl) ⟨rfl, rfl⟩ ?_
        have h5 := h4.p (j := g.2.1) (q := (nI 4, (g.2.2.1 g.2.1).2.1, (sec7 c).toInt32, (g.2.2.1 g.2.1).2.2.2)) hsl (by rw [show (gOp g (nI 4)).2.2.1 g.2.1 = (nI 4, (g.2.2.1 g.2.1).2) from va_up_self _ _ _])
        show Ru _ _ _ _ _ (z_put S7 (ptN g.2.1) (pcl (nI 4, (g.2.2.1 g.2.1).2.1, (sec7 c).toInt32, (g.2.2.1 g.2.1).2.2.2) g.2.1)) _
        have hp5 : (z_put S7 (ptN g.2.1) (pcl (nI 4, (g.2.2.1 g.2.1).2.1, (sec7 c).toInt32, (g.2.2.1 g.2.1).2.2.2) g.2.1)).2.2 (ptN g.2.1) = pcl (nI 4, (g.2.2.1 g.2.1).2.1, (sec7 c).toInt32, (g.2.2.1 g.2.1).2.2.2) g.2.1 := z_put_self
        generalize z_put S7 (ptN g.2.1) (pcl (nI 4, (g.2.2.1 g.2.1).2.1, (sec7 c).toInt32, (g.2.2.1 g.2.1).2.2.2) g.2.1) = S6 at h5 hp5 ⊢
        have hx5 := h5.x0
        have hp6 := hp5
        rw [pcl_eq] at hp6
        refine r_aload dX7_readRept_130 (by first | rfl | assumption) ?_
        refine r_aload_n dX7_readRept_132 (by first | rfl | assumption) ?_
        refine r_getf dX7_readRept_133 zf_X7_69 (by assumption) rfl ?_
        refine r_iload_n dX7_readRept_136 (by first | rfl | assumption) ?_
        refine r_iload_n dX7_readRept_137 (by first | rfl | assumption) ?_
        refine r_ic (1) dX7_readRept_138 rfl ?_
        refine r_iadd dX7_readRept_139 ?_
        rw [nI_1]
        refine r_aload_n dX7_readRept_140 (by first | rfl | assumption) ?_
        refine r_getf dX7_readRept_141 zf_X7_79 (by assumption) rfl ?_
        refine r_callV4 dX7_readRept_144 zm_X7_234 (by assumption) rfl (Nat.le_of_ble_eq_true rfl) (Nat.le_of_ble_eq_true rfl) (C_X4_lay hp5) (fun v S5 hv => ?_)
        obtain ⟨rfl, rfl⟩ := hv
        have h6 := h5.p (j := g.2.1) (q := (nI 4, (g.1.1, o, o + 1, g.1.2.2.2.1), (sec7 c).toInt32, (g.2.2.1 g.2.1).2.2.2)) hsl (by rw [show ((gOp g (nI 4)).1, (gOp g (nI 4)).2.1, va_up (gOp g (nI 4)).2.2.1 g.2.1 (nI 4, (g.2.2.1 g.2.1).2.1, (sec7 c).toInt32, (g.2.2.1 g.2.1).2.2.2), (gOp g (nI 4)).2.2.2).2.2.1 g.2.1 = (nI 4, (g.2.2.1 g.2.1).2.1, (sec7 c).toInt32, (g.2.2.1 g.2.1).2.2.2) from va_up_self _ _ _])
        refine r_ic (0) dX7_readRept_147 rfl ?_
        refine r_ireturn dX7_readRept_148 _ rfl rfl ⟨rfl, E, ?_⟩
        have e9 : va_up (va_up (va_up g.2.2.1 g.2.1 (nI 4, (g.2.2.1 g.2.1).2)) g.2.1 (nI 4, (g.2.2.1 g.2.1).2.1, (sec7 c).toInt32, (g.2.2.1 g.2.1).2.2.2)) g.2.1 (nI 4, (g.1.1, o, o + 1, g.1.2.2.2.1), (sec7 c).toInt32, (g.2.2.1 g.2.1).2.2.2) = va_up g.2.2.1 g.2.1 (4, (g.1.1, o, o + 1, g.1.2.2.2.1), (sec7 c).toInt32, (g.2.2.1 g.2.1).2.2.2) := by rw [up2, up2]; rfl
        have h7 : XI _ E lB lI B C Z N c (g.1, g.2.1 + 1, va_up (va_up (va_up g.2.2.1 g.2.1 (nI 4, (g.2.2.1 g.2.1).2)) g.2.1 (nI 4, (g.2.2.1 g.2.1).2.1, (sec7 c).toInt32, (g.2.2.1 g.2.1).2.2.2)) g.2.1 (nI 4, (g.1.1, o, o + 1, g.1.2.2.2.1), (sec7 c).toInt32, (g.2.2.1 g.2.1).2.2.2), g.2.2.2) := h6
        rw [e9] at h7
        exact h7
      · refine r_icmp_ge_t (tgt := 149) dX7_readRept_105 (by decide) (nI_le (show o ≤ g.1.1 by omega) (by have := ho.1; omega)) ?_
        exact l149 (fun z => q7 z.2) _ rfl rfl
    · refine r_if_le_t (tgt := 149) dX7_readRept_97 (by decide) ((lg_cmp_le _ _).mpr (Int64.not_lt.mp q6)) ?_
      exact l149 (fun z => q6 z.1) _ rfl rfl
end
