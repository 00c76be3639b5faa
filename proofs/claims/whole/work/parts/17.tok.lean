/-! TOKENS -/
/-- the byte at k, or -1 -/
def ch (xs : List Nat) (k : Nat) : Int32 := if k < xs.length then nI (xs.getD k 0) else -1
theorem bAt_ch {xs : List Nat} {k : Nat} (hl : xs.length < 2 ^ 31) (hk : k < 2 ^ 31) : bAt xs (nI k) = ch xs k := by
  unfold ch
  by_cases h : k < xs.length
  · rw [if_pos h, bAt_in h hl]
  · rw [if_neg h, bAt_out (by omega) hk]
theorem z_put_put {S : zS} {t : Nat} {a b : zC} : z_put (z_put S t a) t b = z_put S t b := by
  unfold z_put
  rw [bx_uu]
abbrev tF (b k s e : Nat) (stop : Int32) (val sec : Int64) : List Value := [.ref b, .ref k, .ref s, .ref e, .int stop, .long val, .long sec]
def esc (c : Int32) : Int32 := if c = 110 then 10 else if c = 116 then 9 else if c = 48 then 0 else c
/-- a character or an escape from k on: the place behind it, its value -/
def chB (xs : List Nat) (k : Nat) (q : Int32) : Option (Nat × Int32) := if fPr (ch xs k) = false ∨ ch xs k = q then none else if ch xs k ≠ 92 then some (k + 1, ch xs k) else if fPr (ch xs (k + 1)) = false then none else some (k + 2, esc (ch xs (k + 1)))
theorem C_X6_baseMarked {d : Nat} {S : zS} {x : Int32} : Rc d mX6_baseMarked [.int x] S (fun v S1 => S1 = S ∧ v = some (.int (if x = 120 then 16 else if x = 98 then 2 else 10))) := by
  refine Rc.of ?_
  refine r_iload_n dX6_baseMarked_0 (by first | rfl | assumption) ?_
  refine r_bp (120) dX6_baseMarked_1 rfl ?_
  refine r_icmp_ne (tgt := 9) dX6_baseMarked_3 (by decide) (fun c3 => ?_) (fun c3 => ?_)
  · refine r_iload_n dX6_baseMarked_9 (by first | rfl | assumption) ?_
    refine r_bp (98) dX6_baseMarked_10 rfl ?_
    refine r_icmp_ne (tgt := 19) dX6_baseMarked_12 (by decide) (fun c12 => ?_) (fun c12 => ?_)
    · refine r_bp (10) dX6_baseMarked_19 rfl ?_
      refine r_ireturn dX6_baseMarked_21 _ rfl rfl ⟨rfl, by simp_all⟩
    · refine r_ic (2) dX6_baseMarked_15 rfl ?_
      refine r_goto (tgt := 21) dX6_baseMarked_16 (by decide) ?_
      refine r_ireturn dX6_baseMarked_21 _ rfl rfl ⟨rfl, by simp_all⟩
  · refine r_bp (16) dX6_baseMarked_6 rfl ?_
    refine r_ireturn dX6_baseMarked_8 _ rfl rfl ⟨rfl, by simp_all⟩
theorem fPr_byte {x : Int32} (h : fPr x = true) : ∃ c, c < 256 ∧ x = nI c := by
  unfold fPr at h
  simp only [Bool.and_eq_true, Bool.not_eq_true', decide_eq_false_iff_not] at h
  have h0 : ¬ x < 0 := fun q => h.1 (Int32.lt_trans q (by decide))
  obtain ⟨j, hj, rfl⟩ := nI_of h0
  refine ⟨j, ?_, rfl⟩
  rcases Nat.lt_or_ge j 256 with q | q
  · exact q
  · exact absurd (nI_lt (a := 126) (b := j) (by omega) hj) h.2
theorem esc_off : ∀ c, c < 256 → Op.lookupswitch.offset [(48, 41), (110, 35), (116, 38)] 43 (nI c).toInt = (if c = 110 then 35 else if c = 116 then 38 else if c = 48 then 41 else 43) := by decide +kernel
theorem C_X6_worthOfEscape {d : Nat} {S : zS} {c : Nat} (hc : c < 256) : Rc d mX6_worthOfEscape [.int (nI c)] S (fun v S1 => S1 = S ∧ v = some (.int (esc (nI c)))) := by
  refine Rc.of ?_
  refine r_iload_n dX6_worthOfEscape_0 (by first | rfl | assumption) ?_
  have ho := esc_off c hc
  by_cases q1 : c = 110
  · subst q1
    refine r_lookup (tgt := 36) dX6_worthOfEscape_1 (by decide) ho (by decide) ?_
    refine r_bp (10) dX6_worthOfEscape_36 rfl ?_
    refine r_ireturn dX6_worthOfEscape_38 _ rfl rfl ⟨rfl, rfl⟩
  · by_cases q2 : c = 116
    · subst q2
      refine r_lookup (tgt := 39) dX6_worthOfEscape_1 (by decide) ho (by decide) ?_
      refine r_bp (9) dX6_worthOfEscape_39 rfl ?_
      refine r_ireturn dX6_worthOfEscape_41 _ rfl rfl ⟨rfl, rfl⟩
    · by_cases q3 : c = 48
      · subst q3
        refine r_lookup (tgt := 42) dX6_worthOfEscape_1 (by decide) ho (by decide) ?_
        refine r_ic (0) dX6_worthOfEscape_42 rfl ?_
        refine r_ireturn dX6_worthOfEscape_43 _ rfl rfl ⟨rfl, rfl⟩
      · rw [if_neg q1, if_neg q2, if_neg q3] at ho
        refine r_lookup (tgt := 44) dX6_worthOfEscape_1 (by decide) ho (by decide) ?_
        refine r_iload_n dX6_worthOfEscape_44 (by first | rfl | assumption) ?_
        refine r_ireturn dX6_worthOfEscape_45 _ rfl rfl ⟨rfl, ?_⟩
        have a1 : ¬ nI c = 110 := fun q => q1 ((nI_eq (b := 110) (by omega) (by decide)).mp q)
        have a2 : ¬ nI c = 116 := fun q => q2 ((nI_eq (b := 116) (by omega) (by decide)).mp q)
        have a3 : ¬ nI c = 48 := fun q => q3 ((nI_eq (b := 48) (by omega) (by decide)).mp q)
        unfold esc
        rw [if_neg a1, if_neg a2, if_neg a3]
set_option maxRecDepth 10000 in
set_option maxHeartbeats 1000000 in
theorem C_X6_behindCharacter {d : Nat} {S : zS} {E : zE} {lB lI : List Nat} {B C t b k s e lim i : Nat} {stop q : Int32} {val sec : Int64} {xs : List Nat} (ht : S.2.2 t = .inr (7, tF b k s e stop val sec)) (hV : Vw S E lB lI B C) (hb : E.1 b = some (lim, xs)) (hi : i < 2 ^ 20) : Rc (d + 1) mX6_behindCharacter [.ref t, .int (nI i), .int q] S (fun v S1 => (chB xs i q = none ∧ v = some (.int (-1)) ∧ S1 = S) ∨ ∃ j c, chB xs i q = some (j, c) ∧ v = some (.int (nI j)) ∧ S1 = z_put S t (.inr (7, tF b k s e stop c.toInt64 sec))) := by
  have kb := (hV.b hb).1
  have kb1 := kb.1
  have hxl : xs.length ≤ 65536 := Nat.le_trans kb.2.2.2.1 kb.2.2.2.2.2
  refine Rc.of ?_
  refine r_aload_n dX6_behindCharacter_0 (by first | rfl | assumption) ?_
  refine r_getf dX6_behindCharacter_1 zf_X6_24 (by assumption) rfl ?_
  refine r_iload_n dX6_behindCharacter_4 (by first | rfl | assumption) ?_
  refine r_callV1 dX6_behindCharacter_5 zm_X6_49 (by assumption) rfl (Nat.le_of_ble_eq_true rfl) (Nat.le_of_ble_eq_true rfl) (C_X0_at kb) (fun v S9 hv => ?_)
  obtain ⟨rfl, rfl⟩ := hv
  rw [bAt_ch (by omega) (by omega)]
  refine r_istore_n dX6_behindCharacter_8 (by decide) (by first | exact z_c1_i (by first | rfl | assumption) | exact z_c1_r (by first | rfl | assumption) | exact z_c1_n (by first | rfl | assumption) | exact z_c1_c (by first | rfl | assumption) | exact z_c1_0 (by first | rfl | assumption)) ?_
  refine r_iload_n dX6_behindCharacter_9 (by first | rfl | assumption) ?_
  refine r_callSN1 dX6_behindCharacter_10 zm_X6_102 (Nat.le_of_ble_eq_true rfl) (Nat.le_of_ble_eq_true rfl) (C_X7_isPrintable) (fun v S9 hv => ?_)
  obtain ⟨rfl, rfl⟩ := hv
  refine r_if_eq (tgt := 21) dX6_behindCharacter_13 (by decide) (fun c13 => ?_) (fun c13 => ?_)
  · rw [bI_0] at c13
    refine r_ic (-1) dX6_behindCharacter_21 rfl ?_
    refine r_ireturn dX6_behindCharacter_22 _ rfl rfl (Or.inl ⟨by unfold chB; rw [if_pos (Or.inl c13)], rfl, rfl⟩)
  · rw [bI_0, Bool.not_eq_false] at c13
    refine r_iload_n dX6_behindCharacter_16 (by first | rfl | assumption) ?_
    refine r_iload_n dX6_behindCharacter_17 (by first | rfl | assumption) ?_
    refine r_icmp_ne (tgt := 23) dX6_behindCharacter_18 (by decide) (fun c18 => ?_) (fun c18 => ?_)
    · refine r_iload_n dX6_behindCharacter_23 (by first | rfl | assumption) ?_
      refine r_bp (92) dX6_behindCharacter_24 rfl ?_
      have n1 : ¬ (fPr (ch xs i) = false ∨ ch xs i = q) := fun z => z.elim (fun z => by rw [c13] at z; cases z) c18
      refine r_icmp_eq (tgt := 39) dX6_behindCharacter_26 (by decide) (fun c26 => ?_) (fun c26 => ?_)
      · refine r_aload_n dX6_behindCharacter_39 (by first | rfl | assumption) ?_
        refine r_getf dX6_behindCharacter_40 zf_X6_24 (by assumption) rfl ?_
        refine r_iload_n dX6_behindCharacter_43 (by first | rfl | assumption) ?_
        refine r_ic (1) dX6_behindCharacter_44 rfl ?_
        refine r_iadd dX6_behindCharacter_45 ?_
        rw [nI_1]
        refine r_callV1 dX6_behindCharacter_46 zm_X6_49 (by assumption) rfl (Nat.le_of_ble_eq_true rfl) (Nat.le_of_ble_eq_true rfl) (C_X0_at kb) (fun v S8 hv => ?_)
        obtain ⟨rfl, rfl⟩ := hv
        rw [bAt_ch (by omega) (by omega)]
        refine r_istore dX6_behindCharacter_49 (by decide) (by first | exact z_c1_i (by first | rfl | assumption) | exact z_c1_r (by first | rfl | assumption) | exact z_c1_n (by first | rfl | assumption) | exact z_c1_c (by first | rfl | assumption) | exact z_c1_0 (by first | rfl | assumption)) ?_
        refine r_iload dX6_behindCharacter_51 (by first | rfl | assumption) ?_
        refine r_callSN1 dX6_behindCharacter_53 zm_X6_102 (Nat.le_of_ble_eq_true rfl) (Nat.le_of_ble_eq_true rfl) (C_X7_isPrintable) (fun v S9 hv => ?_)
        obtain ⟨rfl, rfl⟩ := hv
        refine r_if_ne (tgt := 61) dX6_behindCharacter_56 (by decide) (fun c56 => ?_) (fun c56 => ?_)
        · rw [bI_0, Bool.not_eq_false] at c56
          obtain ⟨c2, hc2, ec2⟩ := fPr_byte c56
          refine r_aload_n dX6_behindCharacter_61 (by first | rfl | assumption) ?_
          refine r_iload dX6_behindCharacter_62 (by first | rfl | assumption) ?_
          rw [ec2]
          refine r_callS1 dX6_behindCharacter_64 zm_X6_105 (Nat.le_of_ble_eq_true rfl) (Nat.le_of_ble_eq_true rfl) (C_X6_worthOfEscape hc2) (fun v S9 hv => ?_)
          obtain ⟨rfl, rfl⟩ := hv
          refine r_i2l dX6_behindCharacter_67 ?_
          refine r_putf dX6_behindCharacter_68 zf_X6_53 (by assumption) (Nat.le_of_ble_eq_true rfl) ⟨rfl, rfl⟩ ?_
          refine r_iload_n dX6_behindCharacter_71 (by first | rfl | assumption) ?_
          refine r_ic (2) dX6_behindCharacter_72 rfl ?_
          refine r_iadd dX6_behindCharacter_73 ?_
          have e2 : nI i + 2 = nI (i + 2) := nI_add i 2
          rw [e2]
          refine r_ireturn dX6_behindCharacter_74 _ rfl rfl (Or.inr ⟨i + 2, esc (nI c2), ?_, rfl, rfl⟩)
          unfold chB
          rw [if_neg n1, if_neg (fun z => z c26), if_neg (by rw [c56]; decide), ec2]
        · rw [bI_0] at c56
          refine r_ic (-1) dX6_behindCharacter_59 rfl ?_
          refine r_ireturn dX6_behindCharacter_60 _ rfl rfl (Or.inl ⟨by unfold chB; rw [if_neg n1, if_neg (fun z => z c26), if_pos c56], rfl, rfl⟩)
      · refine r_aload_n dX6_behindCharacter_29 (by first | rfl | assumption) ?_
        refine r_iload_n dX6_behindCharacter_30 (by first | rfl | assumption) ?_
        refine r_i2l dX6_behindCharacter_31 ?_
        refine r_putf dX6_behindCharacter_32 zf_X6_53 (by assumption) (Nat.le_of_ble_eq_true rfl) ⟨rfl, rfl⟩ ?_
        refine r_iload_n dX6_behindCharacter_35 (by first | rfl | assumption) ?_
        refine r_ic (1) dX6_behindCharacter_36 rfl ?_
        refine r_iadd dX6_behindCharacter_37 ?_
        rw [nI_1]
        refine r_ireturn dX6_behindCharacter_38 _ rfl rfl (Or.inr ⟨i + 1, ch xs i, by unfold chB; rw [if_neg n1, if_pos c26], rfl, rfl⟩)
    · refine r_ic (-1) dX6_behindCharacter_21 rfl ?_
      refine r_ireturn dX6_behindCharacter_22 _ rfl rfl (Or.inl ⟨by unfold chB; rw [if_pos (Or.inr c18)], rfl, rfl⟩)
