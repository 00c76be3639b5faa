/-! THE JDK's OWN: String's length and charAt of constants, Arrays.copyOf, Long.compareUnsigned -/
theorem z_mOK_v {own own' : String} {idx idx' n : Nat} {M : zM} (h : z_mOK own idx 0 n M) (hl : Cond.methodLink own' idx' M.1 ∈ z_tb) : z_mOK own' idx' 0 n M := ⟨h.1, h.2.1, h.2.2.1, h.2.2.2.1, h.2.2.2.2.1, hl, h.2.2.2.2.2.2⟩
theorem z_mOK_s {own own' : String} {idx idx' n : Nat} {M : zM} (h : z_mOK own idx 2 n M) (hl : Cond.methodLink own' idx' M.1 ∈ z_tb) : z_mOK own' idx' 2 n M := ⟨h.1, h.2.1, h.2.2.1, h.2.2.2.1, h.2.2.2.2.1, hl, h.2.2.2.2.2.2⟩
theorem z_sbB : ∀ k, k < 7 → ∀ j, j < (z_sb k).length → (z_sb k).getD j 0 < 128 := by decide
theorem z_ch8 : ∀ c, c < 128 → (nI c &&& 255 : Int32) = nI c ∧ ((nI c).toUInt32 % 65536).toInt32 = nI c ∧ narrow .char (.int (nI c)) = .int (nI c) := by decide +kernel
section
variable {d : Nat} {S : zS}
theorem C_J0_coder {k9 : Nat} (hk : k9 < 7) : Rc d mJ0_coder_7d493 [.retAddr k9] S (fun v S1 => S1 = S ∧ v = some (.int 0)) := by
  refine Rc.of ?_
  refine r_gsC dJ0_coder_7d493_0 zl_J0_38 ?_
  refine r_if_eq_f (tgt := 13) dJ0_coder_7d493_3 (by decide) (show ¬ (1 : Int32) = 0 by decide) ?_
  refine r_aload_nS dJ0_coder_7d493_6 (by first | rfl | assumption) ?_
  refine r_gfC dJ0_coder_7d493_7 zl_J0_15 hk ?_
  refine r_goto (tgt := 14) dJ0_coder_7d493_10 (by decide) ?_
  refine r_ireturn dJ0_coder_7d493_14 _ rfl rfl ⟨rfl, rfl⟩
theorem C_J0_isLatin1 {k9 : Nat} (hk : k9 < 7) : Rc d mJ0_isLatin1_aae02 [.retAddr k9] S (fun v S1 => S1 = S ∧ v = some (.int 1)) := by
  refine Rc.of ?_
  refine r_gsC dJ0_isLatin1_aae02_0 zl_J0_38 ?_
  refine r_if_eq_f (tgt := 17) dJ0_isLatin1_aae02_3 (by decide) (show ¬ (1 : Int32) = 0 by decide) ?_
  refine r_aload_nS dJ0_isLatin1_aae02_6 (by first | rfl | assumption) ?_
  refine r_gfC dJ0_isLatin1_aae02_7 zl_J0_15 hk ?_
  refine r_if_ne_f (tgt := 17) dJ0_isLatin1_aae02_10 (by decide) (rfl) ?_
  refine r_ic (1) dJ0_isLatin1_aae02_13 rfl ?_
  refine r_goto (tgt := 18) dJ0_isLatin1_aae02_14 (by decide) ?_
  refine r_ireturn dJ0_isLatin1_aae02_18 _ rfl rfl ⟨rfl, rfl⟩
theorem C_J0_length {k9 : Nat} (hk : k9 < 7) : Rc (d + 1) mJ0_length_8abf5 [.retAddr k9] S (fun v S1 => S1 = S ∧ v = some (.int (nI (z_sb k9).length))) := by
  refine Rc.of ?_
  refine r_aload_nS dJ0_length_8abf5_0 (by first | rfl | assumption) ?_
  refine r_gfV dJ0_length_8abf5_1 zl_J0_9 hk ?_
  refine r_alS dJ0_length_8abf5_4 hk ?_
  refine r_aload_nS dJ0_length_8abf5_5 (by first | rfl | assumption) ?_
  refine r_callVS0 dJ0_length_8abf5_6 zm_J0_335 hk rfl (Nat.le_of_ble_eq_true rfl) (Nat.le_of_ble_eq_true rfl) (C_J0_coder hk) (fun v S1 hv => ?_)
  obtain ⟨rfl, rfl⟩ := hv
  refine r_ishr dJ0_length_8abf5_9 ?_
  rw [sc_shr0 (z_sb9 k9 hk)]
  refine r_ireturn dJ0_length_8abf5_10 _ rfl rfl ⟨rfl, rfl⟩
theorem C_J3_chk {i n : Nat} {w : Value} (hi : i < n) (hn : n < 2 ^ 31) : Rc d mJ3_checkIndex_8e157 [.int (nI i), .int (nI n), w] S (fun v S1 => S1 = S ∧ v = some (.int (nI i))) := by
  refine Rc.of ?_
  refine r_iload_n dJ3_checkIndex_8e157_0 (by first | rfl | assumption) ?_
  refine r_if_lt_f (tgt := 9) dJ3_checkIndex_8e157_1 (by decide) (nI_pos (by omega)) ?_
  refine r_iload_n dJ3_checkIndex_8e157_4 (by first | rfl | assumption) ?_
  refine r_iload_n dJ3_checkIndex_8e157_5 (by first | rfl | assumption) ?_
  refine r_icmp_lt_t (tgt := 16) dJ3_checkIndex_8e157_6 (by decide) (nI_lt hi hn) ?_
  refine r_iload_n dJ3_checkIndex_8e157_16 (by first | rfl | assumption) ?_
  refine r_ireturn dJ3_checkIndex_8e157_17 _ rfl rfl ⟨rfl, rfl⟩
theorem C_J0_chk {i n : Nat} (hi : i < n) (hn : n < 2 ^ 31) : Rc (d + 1) mJ0_checkIndex_df160 [.int (nI i), .int (nI n)] S (fun v S1 => S1 = S ∧ v = none) := by
  obtain ⟨⟨p1, l1, s1, S1⟩, r1, h1, h2, h3, h4⟩ := C_J3_chk (d := d) (S := S) (w := .null) hi hn
  obtain ⟨⟨p2, l2, s2, S2⟩, r2, g1, g2, g3, g4⟩ := C_J3_chk (d := d) (S := S) (w := .retAddr 52) hi hn
  have h3 : S1 = S := h3
  have g3 : S2 = S := g3
  subst h3
  subst g3
  refine ⟨(9, lv_args 0 [.int (nI i), .int (nI n)], [], S2), none, ?_, Or.inl ⟨dJ0_checkIndex_df160_9, rfl, rfl, rfl⟩, rfl, rfl⟩
  refine zr_iload_n (x := nI i) dJ0_checkIndex_df160_0 (by simp [lv_args]) ?_
  refine zr_iload_n (x := nI n) dJ0_checkIndex_df160_1 (by simp [lv_args, Value.category]) ?_
  refine zr_gsF dJ0_checkIndex_df160_2 zl_J0_1053 ?_ ?_
  · refine zr_callS (as := [.int (nI i), .int (nI n), .null]) (st := []) dJ0_checkIndex_df160_5 zm_J0_1059 rfl (Nat.le_of_ble_eq_true rfl) (Nat.zero_le _) h2 h1 ?_
    rw [h4]
    exact zr_pop dJ0_checkIndex_df160_8 rfl zr_refl
  · refine zr_callS (as := [.int (nI i), .int (nI n), .retAddr 52]) (st := []) dJ0_checkIndex_df160_5 zm_J0_1059 rfl (Nat.le_of_ble_eq_true rfl) (Nat.zero_le _) g2 g1 ?_
    rw [g4]
    exact zr_pop dJ0_checkIndex_df160_8 rfl zr_refl
theorem C_J1_charAt {k9 j : Nat} (hk : k9 < 7) (hj : j < (z_sb k9).length) : Rc (d + 2) mJ1_charAt_3b067 [.retAddr (100 + k9), .int (nI j)] S (fun v S1 => S1 = S ∧ v = some (.int (nI ((z_sb k9).getD j 0)))) := by
  have hc := z_ch8 _ (z_sbB k9 hk j hj)
  refine Rc.of ?_
  refine r_iload_n dJ1_charAt_3b067_0 (by first | rfl | assumption) ?_
  refine r_aload_nS dJ1_charAt_3b067_1 (by first | rfl | assumption) ?_
  refine r_alS dJ1_charAt_3b067_2 hk ?_
  refine r_callS2 dJ1_charAt_3b067_3 zm_J1_9 (Nat.le_of_ble_eq_true rfl) (Nat.le_of_ble_eq_true rfl) (C_J0_chk hj (z_sb9 k9 hk)) (fun v S1 hv => ?_)
  obtain ⟨rfl, rfl⟩ := hv
  refine r_aload_nS dJ1_charAt_3b067_6 (by first | rfl | assumption) ?_
  refine r_iload_n dJ1_charAt_3b067_7 (by first | rfl | assumption) ?_
  refine r_baS dJ1_charAt_3b067_8 hk hj ?_
  refine r_sp (255) dJ1_charAt_3b067_9 rfl ?_
  refine r_iand dJ1_charAt_3b067_12 ?_
  rw [hc.1]
  refine r_i2c dJ1_charAt_3b067_13 ?_
  rw [hc.2.1]
  refine r_ireturn dJ1_charAt_3b067_14 _ rfl hc.2.2 ⟨rfl, rfl⟩
theorem C_J0_charAt {k9 j : Nat} (hk : k9 < 7) (hj : j < (z_sb k9).length) : Rc (d + 3) mJ0_charAt_5068e [.retAddr k9, .int (nI j)] S (fun v S1 => S1 = S ∧ v = some (.int (nI ((z_sb k9).getD j 0)))) := by
  have hc := z_ch8 _ (z_sbB k9 hk j hj)
  refine Rc.of ?_
  refine r_aload_nS dJ0_charAt_5068e_0 (by first | rfl | assumption) ?_
  refine r_callVS0 dJ0_charAt_5068e_1 zm_J0_492 hk rfl (Nat.le_of_ble_eq_true rfl) (Nat.le_of_ble_eq_true rfl) (C_J0_isLatin1 hk) (fun v S1 hv => ?_)
  obtain ⟨rfl, rfl⟩ := hv
  refine r_if_eq_f (tgt := 16) dJ0_charAt_5068e_4 (by decide) (show ¬ (1 : Int32) = 0 by decide) ?_
  refine r_aload_nS dJ0_charAt_5068e_7 (by first | rfl | assumption) ?_
  refine r_gfV dJ0_charAt_5068e_8 zl_J0_9 hk ?_
  refine r_iload_n dJ0_charAt_5068e_11 (by first | rfl | assumption) ?_
  refine r_callS2 dJ0_charAt_5068e_12 zm_J0_495 (Nat.le_of_ble_eq_true rfl) (Nat.le_of_ble_eq_true rfl) (C_J1_charAt hk hj) (fun v S2 hv => ?_)
  obtain ⟨rfl, rfl⟩ := hv
  refine r_ireturn dJ0_charAt_5068e_15 _ rfl hc.2.2 ⟨rfl, rfl⟩
theorem nI_min {a b : Nat} (h : a < b) (hb : b < 2 ^ 31) : (if (nI b : Int32) < nI a then nI b else nI a) = nI a := by
  rw [if_neg (nI_nlt (Nat.le_of_lt h) hb)]
theorem z_new_old {S : zS} {i k : Nat} {c c9 : zC} (h : S.2.2 i = c9) (hi : i < S.1) : (z_new S c k).2.2 i = c9 := (va_up_ne _ _ (Nat.ne_of_lt hi)).trans h
theorem z_new_at {S : zS} {k : Nat} {c : zC} : (z_new S c k).2.2 S.1 = c := va_up_self _ _ _
theorem z_new_put {S : zS} {k : Nat} {c c9 : zC} : z_put (z_new S c k) S.1 c9 = z_new S c9 k := by
  show (_, _, va_up (va_up S.2.2 S.1 c) S.1 c9) = (_, _, va_up S.2.2 S.1 c9)
  congr 2
  funext j
  unfold va_up
  split <;> rfl
theorem C_copyB {i n N : Nat} {g : Nat → Int32} (h : S.2.2 i = .inl (.byte, n, .inl g)) (hi : i < S.1) (hN : n < N ∧ N < 2 ^ 28) : Rc (d + 1) mJ7_copyOf_9075b [.ref i, .int (nI N)] S (fun v S1 => S1 = z_new S (.inl (.byte, N, .inl (va_cpy g (fun _ => 0) 0 0 n))) N ∧ v = some (.ref S.1)) := by
  refine Rc.of ?_
  refine r_iload_n dJ7_copyOf_9075b_0 (by first | rfl | assumption) ?_
  refine r_aload_n dJ7_copyOf_9075b_1 (by first | rfl | assumption) ?_
  refine r_alen dJ7_copyOf_9075b_2 (by assumption) ?_
  refine r_icmp_ne_t (tgt := 14) dJ7_copyOf_9075b_3 (by decide) (fun q => absurd (nI_lt hN.1 (by omega)) (by rw [q]; exact Int32.lt_irrefl)) ?_
  refine r_iload_n dJ7_copyOf_9075b_14 (by first | rfl | assumption) ?_
  refine r_newb (N := N) dJ7_copyOf_9075b_15 (nI_pos (by omega)) (nI_clamp (by omega)) (by show N * 1 ≤ _; omega) z_ac_byte ?_
  have h2 := z_new_old (k := N) (c := .inl (.byte, N, .inl (fun _ => 0))) h hi
  refine r_astore_n dJ7_copyOf_9075b_17 (by decide) (by first | assumption | exact z_c1_i (by first | rfl | assumption) | exact z_c1_r (by first | rfl | assumption) | exact z_c1_n (by first | rfl | assumption) | exact z_c1_c (by first | rfl | assumption) | exact z_c1_0 (by first | rfl | assumption)) ?_
  refine r_aload_n dJ7_copyOf_9075b_18 (by first | rfl | assumption) ?_
  refine r_ic (0) dJ7_copyOf_9075b_19 rfl ?_
  refine r_aload_n dJ7_copyOf_9075b_20 (by first | rfl | assumption) ?_
  refine r_ic (0) dJ7_copyOf_9075b_21 rfl ?_
  refine r_aload_n dJ7_copyOf_9075b_22 (by first | rfl | assumption) ?_
  refine r_alen dJ7_copyOf_9075b_23 (by assumption) ?_
  refine r_iload_n dJ7_copyOf_9075b_24 (by first | rfl | assumption) ?_
  refine r_mmin dJ7_copyOf_9075b_25 zo_J7_304 (by simp [Value.category]) ?_
  rw [show (if (nI N : Int32) < Int32.ofNat (n, (Sum.inl g : (Nat → Int32) ⊕ (Nat → Int64) ⊕ (Nat → UInt32) ⊕ (Nat → UInt64) ⊕ (Nat → Option Nat))).1 then nI N else Int32.ofNat (n, (Sum.inl g : (Nat → Int32) ⊕ (Nat → Int64) ⊕ (Nat → UInt32) ⊕ (Nat → UInt64) ⊕ (Nat → Option Nat))).1) = nI n from nI_min hN.1 (by omega)]
  refine r_acpI dJ7_copyOf_9075b_28 zl_J7_150 h2 z_new_at ⟨Nat.le_refl _, Nat.le_of_lt hN.1, by omega⟩ (by simp) (Or.inl rfl) ?_
  rw [z_new_put]
  refine r_aload_n dJ7_copyOf_9075b_31 (by first | rfl | assumption) ?_
  refine r_areturn dJ7_copyOf_9075b_32 _ rfl (by first | exact Or.inl ⟨_, rfl⟩ | exact Or.inr ⟨_, rfl⟩) (by first | exact Or.inr (Or.inl ⟨_, rfl⟩) | exact Or.inl rfl | exact Or.inr (Or.inr ⟨_, rfl⟩)) ⟨rfl, rfl⟩
theorem C_copyI {i n N : Nat} {g : Nat → Int32} (h : S.2.2 i = .inl (.int, n, .inl g)) (hi : i < S.1) (hN : n < N ∧ N < 2 ^ 26) : Rc (d + 1) mJ7_copyOf_59c91 [.ref i, .int (nI N)] S (fun v S1 => S1 = z_new S (.inl (.int, N, .inl (va_cpy g (fun _ => 0) 0 0 n))) N ∧ v = some (.ref S.1)) := by
  refine Rc.of ?_
  refine r_iload_n dJ7_copyOf_59c91_0 (by first | rfl | assumption) ?_
  refine r_aload_n dJ7_copyOf_59c91_1 (by first | rfl | assumption) ?_
  refine r_alen dJ7_copyOf_59c91_2 (by assumption) ?_
  refine r_icmp_ne_t (tgt := 14) dJ7_copyOf_59c91_3 (by decide) (fun q => absurd (nI_lt hN.1 (by omega)) (by rw [q]; exact Int32.lt_irrefl)) ?_
  refine r_iload_n dJ7_copyOf_59c91_14 (by first | rfl | assumption) ?_
  refine r_newi (N := N) dJ7_copyOf_59c91_15 (nI_pos (by omega)) (nI_clamp (by omega)) (by show N * 4 ≤ _; omega) z_ac_int ?_
  have h2 := z_new_old (k := N) (c := .inl (.int, N, .inl (fun _ => 0))) h hi
  refine r_astore_n dJ7_copyOf_59c91_17 (by decide) (by first | assumption | exact z_c1_i (by first | rfl | assumption) | exact z_c1_r (by first | rfl | assumption) | exact z_c1_n (by first | rfl | assumption) | exact z_c1_c (by first | rfl | assumption) | exact z_c1_0 (by first | rfl | assumption)) ?_
  refine r_aload_n dJ7_copyOf_59c91_18 (by first | rfl | assumption) ?_
  refine r_ic (0) dJ7_copyOf_59c91_19 rfl ?_
  refine r_aload_n dJ7_copyOf_59c91_20 (by first | rfl | assumption) ?_
  refine r_ic (0) dJ7_copyOf_59c91_21 rfl ?_
  refine r_aload_n dJ7_copyOf_59c91_22 (by first | rfl | assumption) ?_
  refine r_alen dJ7_copyOf_59c91_23 (by assumption) ?_
  refine r_iload_n dJ7_copyOf_59c91_24 (by first | rfl | assumption) ?_
  refine r_mmin dJ7_copyOf_59c91_25 zo_J7_304 (by simp [Value.category]) ?_
  rw [show (if (nI N : Int32) < Int32.ofNat (n, (Sum.inl g : (Nat → Int32) ⊕ (Nat → Int64) ⊕ (Nat → UInt32) ⊕ (Nat → UInt64) ⊕ (Nat → Option Nat))).1 then nI N else Int32.ofNat (n, (Sum.inl g : (Nat → Int32) ⊕ (Nat → Int64) ⊕ (Nat → UInt32) ⊕ (Nat → UInt64) ⊕ (Nat → Option Nat))).1) = nI n from nI_min hN.1 (by omega)]
  refine r_acpI dJ7_copyOf_59c91_28 zl_J7_150 h2 z_new_at ⟨Nat.le_refl _, Nat.le_of_lt hN.1, by omega⟩ (by simp) (Or.inr rfl) ?_
  rw [z_new_put]
  refine r_aload_n dJ7_copyOf_59c91_31 (by first | rfl | assumption) ?_
  refine r_areturn dJ7_copyOf_59c91_32 _ rfl (by first | exact Or.inl ⟨_, rfl⟩ | exact Or.inr ⟨_, rfl⟩) (by first | exact Or.inr (Or.inl ⟨_, rfl⟩) | exact Or.inl rfl | exact Or.inr (Or.inr ⟨_, rfl⟩)) ⟨rfl, rfl⟩
theorem C_J13_cmp {x y : Int64} : Rc d mJ13_compare_74951 [.long x, .long y] S (fun v S1 => S1 = S ∧ v = some (.int (lg_cmp x y))) := by
  refine Rc.of ?_
  refine r_lload_n dJ13_compare_74951_0 (by first | rfl | assumption) ?_
  refine r_lload_n dJ13_compare_74951_1 (by first | rfl | assumption) ?_
  refine r_lcmp dJ13_compare_74951_2 ?_
  refine r_if_ge (tgt := 10) dJ13_compare_74951_3 (by decide) (fun c3 => ?_) (fun c3 => ?_)
  · refine r_lload_n dJ13_compare_74951_10 (by first | rfl | assumption) ?_
    refine r_lload_n dJ13_compare_74951_11 (by first | rfl | assumption) ?_
    refine r_lcmp dJ13_compare_74951_12 ?_
    refine r_if_ne (tgt := 20) dJ13_compare_74951_13 (by decide) (fun c13 => ?_) (fun c13 => ?_)
    · refine r_ic (1) dJ13_compare_74951_20 rfl ?_
      refine r_ireturn dJ13_compare_74951_21 _ rfl rfl ⟨rfl, ?_⟩
      unfold lg_cmp at c3 c13 ⊢
      by_cases h1 : x > y
      · rw [if_pos h1]
      · rw [if_neg h1] at c3 c13
        by_cases h2 : x = y
        · rw [if_pos h2] at c13; exact absurd rfl c13
        · rw [if_neg h2] at c3; exact absurd c3 (by decide)
    · refine r_ic (0) dJ13_compare_74951_16 rfl ?_
      refine r_goto (tgt := 21) dJ13_compare_74951_17 (by decide) ?_
      refine r_ireturn dJ13_compare_74951_21 _ rfl rfl ⟨rfl, by rw [c13]⟩
  · refine r_ic (-1) dJ13_compare_74951_6 rfl ?_
    refine r_goto (tgt := 21) dJ13_compare_74951_7 (by decide) ?_
    refine r_ireturn dJ13_compare_74951_21 _ rfl rfl ⟨rfl, ?_⟩
    unfold lg_cmp at c3 ⊢
    by_cases h1 : x > y
    · rw [if_pos h1] at c3; exact absurd (by decide) c3
    · rw [if_neg h1] at c3 ⊢
      by_cases h2 : x = y
      · rw [if_pos h2] at c3; exact absurd (by decide) c3
      · rw [if_neg h2]
theorem C_J13_cmpU {x y : Int64} : Rc (d + 1) mJ13_compareUnsigned_74951 [.long x, .long y] S (fun v S1 => S1 = S ∧ v = some (.int (lg_cmp (x + (-9223372036854775808)) (y + (-9223372036854775808))))) := by
  refine Rc.of ?_
  refine r_lload_n dJ13_compareUnsigned_74951_0 (by first | rfl | assumption) ?_
  refine r_ldc2 dJ13_compareUnsigned_74951_1 zk_J13_168 ?_
  refine r_ladd dJ13_compareUnsigned_74951_4 ?_
  refine r_lload_n dJ13_compareUnsigned_74951_5 (by first | rfl | assumption) ?_
  refine r_ldc2 dJ13_compareUnsigned_74951_6 zk_J13_168 ?_
  refine r_ladd dJ13_compareUnsigned_74951_9 ?_
  refine r_callS2 dJ13_compareUnsigned_74951_10 zm_J13_302 (Nat.le_of_ble_eq_true rfl) (Nat.le_of_ble_eq_true rfl) (C_J13_cmp) (fun v S1 hv => ?_)
  obtain ⟨rfl, rfl⟩ := hv
  refine r_ireturn dJ13_compareUnsigned_74951_13 _ rfl rfl ⟨rfl, rfl⟩
end
section
variable {d : Nat} {M : zM} {pc : Nat} {L : Nat → Option Value} {st : List Value} {S : zS} {Q : Nat → List Value → zS → Prop}
theorem r_slen {idx k9 : Nat} (hd : decode M.2.1 pc = .ok (.invokevirtual idx, 3)) (h0 : Cond.methodLink M.1.cls idx yJ0_length_8abf5 ∈ z_tb) (h1 : k9 < 7) (h2 : (st.map Value.category).sum ≤ 8) (k : Ru (d + 2) M (pc + 3) L (.int (nI (z_sb k9).length) :: st) S Q) : Ru (d + 2) M pc L (.retAddr k9 :: st) S Q := by
  refine r_callVS0 hd (z_mOK_v zm_X0_52 h0) h1 rfl (Nat.le_of_ble_eq_true rfl) h2 (C_J0_length h1) (fun v S1 hv => ?_)
  obtain ⟨rfl, rfl⟩ := hv
  exact k
theorem r_schar {idx k9 j : Nat} (hd : decode M.2.1 pc = .ok (.invokevirtual idx, 3)) (h0 : Cond.methodLink M.1.cls idx yJ0_charAt_5068e ∈ z_tb) (h1 : k9 < 7) (hj : j < (z_sb k9).length) (h2 : (st.map Value.category).sum ≤ 8) (k : Ru (d + 5) M (pc + 3) L (.int (nI ((z_sb k9).getD j 0)) :: st) S Q) : Ru (d + 5) M pc L (.int (nI j) :: .retAddr k9 :: st) S Q := by
  refine r_callVS1 hd (z_mOK_v zm_X0_62 h0) h1 rfl (Nat.le_of_ble_eq_true rfl) h2 (C_J0_charAt (d := d + 1) h1 hj) (fun v S1 hv => ?_)
  obtain ⟨rfl, rfl⟩ := hv
  exact k
theorem r_copyB {idx i n N : Nat} {g : Nat → Int32} (hd : decode M.2.1 pc = .ok (.invokestatic idx, 3)) (h0 : Cond.methodLink M.1.cls idx yJ7_copyOf_9075b ∈ z_tb) (h1 : S.2.2 i = .inl (.byte, n, .inl g)) (hi : i < S.1) (hN : n < N ∧ N < 2 ^ 28) (h2 : (st.map Value.category).sum ≤ 8) (k : Ru (d + 3) M (pc + 3) L (.ref S.1 :: st) (z_new S (.inl (.byte, N, .inl (va_cpy g (fun _ => 0) 0 0 n))) N) Q) : Ru (d + 3) M pc L (.int (nI N) :: .ref i :: st) S Q := by
  refine r_callS2 hd (z_mOK_s zm_X0_29 h0) (Nat.le_of_ble_eq_true rfl) h2 (C_copyB (d := d + 1) h1 hi hN) (fun v S1 hv => ?_)
  obtain ⟨rfl, rfl⟩ := hv
  exact k
theorem r_copyI {idx i n N : Nat} {g : Nat → Int32} (hd : decode M.2.1 pc = .ok (.invokestatic idx, 3)) (h0 : Cond.methodLink M.1.cls idx yJ7_copyOf_59c91 ∈ z_tb) (h1 : S.2.2 i = .inl (.int, n, .inl g)) (hi : i < S.1) (hN : n < N ∧ N < 2 ^ 26) (h2 : (st.map Value.category).sum ≤ 8) (k : Ru (d + 3) M (pc + 3) L (.ref S.1 :: st) (z_new S (.inl (.int, N, .inl (va_cpy g (fun _ => 0) 0 0 n))) N) Q) : Ru (d + 3) M pc L (.int (nI N) :: .ref i :: st) S Q := by
  refine r_callS2 hd (z_mOK_s zm_X1_17 h0) (Nat.le_of_ble_eq_true rfl) h2 (C_copyI (d := d + 1) h1 hi hN) (fun v S1 hv => ?_)
  obtain ⟨rfl, rfl⟩ := hv
  exact k
theorem r_cmpU {idx : Nat} {x y : Int64} (hd : decode M.2.1 pc = .ok (.invokestatic idx, 3)) (h0 : Cond.methodLink M.1.cls idx yJ13_compareUnsigned_74951 ∈ z_tb) (h2 : (st.map Value.category).sum ≤ 8) (k : Ru (d + 3) M (pc + 3) L (.int (lg_cmp (x + (-9223372036854775808)) (y + (-9223372036854775808))) :: st) S Q) : Ru (d + 3) M pc L (.long y :: .long x :: st) S Q := by
  refine r_callS2 hd (z_mOK_s zm_X8_223 h0) (Nat.le_of_ble_eq_true rfl) h2 (C_J13_cmpU (d := d + 1)) (fun v S1 hv => ?_)
  obtain ⟨rfl, rfl⟩ := hv
  exact k
end
