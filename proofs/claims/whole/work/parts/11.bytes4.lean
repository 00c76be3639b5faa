theorem sb_inj {x y : Nat} (hx : x < 256) (hy : y < 256) : sb_b x = sb_b y ↔ x = y := by
  constructor
  · intro h
    have h1 := (sb_byte x hx).1
    rw [h, (sb_byte y hy).1] at h1
    exact ((nI_eq (by omega) (by omega)).mp h1).symm
  · intro h; rw [h]
theorem sb_low : ∀ c, c < 128 → sb_b c = nI c := by decide
def eqs (xs : List Nat) (a : Nat) (ys : List Nat) (o l : Nat) : Bool := decide (∀ j, j < l → xs.getD (a + j) 0 = ys.getD (o + j) 0)
def sam (xs : List Nat) (a : Nat) (ys : List Nat) (o l : Nat) : Bool := decide (a + l ≤ xs.length) && decide (o + l ≤ ys.length) && eqs xs a ys o l
set_option maxRecDepth 10000 in
theorem C_X0_isSame {d : Nat} {S : zS} {b r cap lim q rq cpq limq a l o : Nat} {xs ys : List Nat} (h : isB S b r cap lim xs) (hq : isB S q rq cpq limq ys) (ha : a < 2 ^ 20) (hl : l < 2 ^ 20) (ho : o < 2 ^ 20) : Rc (d + 1) mX0_isSame [.ref b, .int (nI a), .int (nI l), .ref q, .int (nI o)] S (fun v S1 => S1 = S ∧ v = some (.int (bI (sam xs a ys o l)))) := by
  have hb := h.1
  have hqq := hq.1
  refine Rc.of ?_
  refine r_aload_n dX0_isSame_0 (by first | rfl | assumption) ?_
  refine r_iload_n dX0_isSame_1 (by first | rfl | assumption) ?_
  refine r_iload_n dX0_isSame_2 (by first | rfl | assumption) ?_
  refine r_callV2 dX0_isSame_3 zm_X0_58 (by assumption) rfl (Nat.le_of_ble_eq_true rfl) (Nat.le_of_ble_eq_true rfl) (C_X0_holds h ha hl) (fun v S1 hv => ?_)
  obtain ⟨rfl, rfl⟩ := hv
  by_cases e1 : a + l ≤ xs.length
  · rw [if_pos e1]
    refine r_if_eq_f (tgt := 19) dX0_isSame_6 (by decide) (by decide) ?_
    refine r_aload_n dX0_isSame_9 (by first | rfl | assumption) ?_
    refine r_iload dX0_isSame_10 (by first | rfl | assumption) ?_
    refine r_iload_n dX0_isSame_12 (by first | rfl | assumption) ?_
    refine r_callV2 dX0_isSame_13 zm_X0_58 (by assumption) rfl (Nat.le_of_ble_eq_true rfl) (Nat.le_of_ble_eq_true rfl) (C_X0_holds hq ho hl) (fun v S1 hv => ?_)
    obtain ⟨rfl, rfl⟩ := hv
    by_cases e2 : o + l ≤ ys.length
    · rw [if_pos e2]
      refine r_if_ne_t (tgt := 21) dX0_isSame_16 (by decide) (by decide) ?_
      obtain ⟨-, ⟨g, hr, hg⟩, f1, f2, f3, f4⟩ := h
      obtain ⟨-, ⟨g', hr', hg'⟩, f1', f2', f3', f4'⟩ := hq
      have loop : ∀ (k i : Nat) (L : Nat → Option Value), l - i = k → i ≤ l → (∀ j, j < i → xs.getD (a + j) 0 = ys.getD (o + j) 0) → L 0 = some (.ref b) → L 1 = some (.int (nI a)) → L 2 = some (.int (nI l)) → L 3 = some (.ref q) → L 4 = some (.int (nI o)) → L 5 = some (.int (nI i)) → Ru (d + 1) mX0_isSame 24 L [] S1 (z_en mX0_isSame (fun v S2 => S2 = S1 ∧ v = some (.int (bI (sam xs a ys o l))))) := by
        intro k
        induction k with
        | zero =>
          intro i L hk hi hs l0 l1 l2 l3 l4 l5
          refine r_iload dX0_isSame_24 (by first | rfl | assumption) ?_
          refine r_iload_n dX0_isSame_26 (by first | rfl | assumption) ?_
          refine r_icmp_ge_t (tgt := 60) dX0_isSame_27 (by decide) (nI_le (a := l) (b := i) (by omega) (by omega)) ?_
          refine r_ic (1) dX0_isSame_60 rfl ?_
          refine r_ireturn dX0_isSame_61 _ rfl rfl ⟨rfl, ?_⟩
          have e3 : eqs xs a ys o l = true := decide_eq_true (fun j hj => hs j (by omega))
          unfold sam
          rw [decide_eq_true e1, decide_eq_true e2, e3]
          rfl
        | succ k ih =>
          intro i L hk hi hs l0 l1 l2 l3 l4 l5
          refine r_iload dX0_isSame_24 (by first | rfl | assumption) ?_
          refine r_iload_n dX0_isSame_26 (by first | rfl | assumption) ?_
          refine r_icmp_ge_f (tgt := 60) dX0_isSame_27 (by decide) (nI_ge (a := i) (b := l) (by omega) (by omega)) ?_
          refine r_aload_n dX0_isSame_30 (by first | rfl | assumption) ?_
          refine r_getf dX0_isSame_31 zf_X0_19 (by assumption) rfl ?_
          refine r_iload_n dX0_isSame_34 (by first | rfl | assumption) ?_
          refine r_iload dX0_isSame_35 (by first | rfl | assumption) ?_
          refine r_iadd dX0_isSame_37 ?_
          refine r_bald dX0_isSame_38 (by assumption) (by rw [nI_add]; exact vp_in_nI (by omega) (by omega)) ?_
          refine r_aload_n dX0_isSame_39 (by first | rfl | assumption) ?_
          refine r_getf dX0_isSame_40 zf_X0_19 (by assumption) rfl ?_
          refine r_iload dX0_isSame_43 (by first | rfl | assumption) ?_
          refine r_iload dX0_isSame_45 (by first | rfl | assumption) ?_
          refine r_iadd dX0_isSame_47 ?_
          refine r_bald dX0_isSame_48 (by assumption) (by rw [nI_add]; exact vp_in_nI (by omega) (by omega)) ?_
          have q1 : g (nI a + nI i).toNatClampNeg = sb_b (xs.getD (a + i) 0) := by rw [nI_add, nI_clamp (by omega)]; exact (hg _ (by omega)).2
          have q2 : g' (nI o + nI i).toNatClampNeg = sb_b (ys.getD (o + i) 0) := by rw [nI_add, nI_clamp (by omega)]; exact (hg' _ (by omega)).2
          rw [q1, q2]
          have q3 := sb_inj (hg (a + i) (by omega)).1 (hg' (o + i) (by omega)).1
          refine r_icmp_eq (tgt := 54) dX0_isSame_49 (by decide) (fun c49 => ?_) (fun c49 => ?_)
          · refine r_inc (nI (i + 1)) dX0_isSame_54 (by first | rfl | assumption) (by decide) (by first | exact z_c1_i (by first | rfl | assumption) | exact z_c1_r (by first | rfl | assumption) | exact z_c1_n (by first | rfl | assumption) | exact z_c1_c (by first | rfl | assumption) | exact z_c1_0 (by first | rfl | assumption)) (nI_1 i) ?_
            refine r_goto (tgt := 24) dX0_isSame_57 (by decide) ?_
            refine ih (i + 1) _ (by omega) (by omega) (fun j hj => ?_) l0 l1 l2 l3 l4 rfl
            by_cases e4 : j = i
            · rw [e4]; exact q3.mp c49
            · exact hs j (by omega)
          · refine r_ic (0) dX0_isSame_52 rfl ?_
            refine r_ireturn dX0_isSame_53 _ rfl rfl ⟨rfl, ?_⟩
            have e3 : eqs xs a ys o l = false := decide_eq_false (fun hc => c49 (q3.mpr (hc i (by omega))))
            unfold sam
            rw [e3, Bool.and_false]
            rfl
      refine r_ic (0) dX0_isSame_21 rfl ?_
      refine r_istore dX0_isSame_22 (by decide) (by first | exact z_c1_i (by first | rfl | assumption) | exact z_c1_r (by first | rfl | assumption) | exact z_c1_n (by first | rfl | assumption) | exact z_c1_c (by first | rfl | assumption) | exact z_c1_0 (by first | rfl | assumption)) ?_
      exact loop _ 0 _ rfl (Nat.zero_le _) (fun j hj => absurd hj (Nat.not_lt_zero _)) rfl rfl rfl rfl rfl rfl
    · rw [if_neg e2]
      refine r_if_ne_f (tgt := 21) dX0_isSame_16 (by decide) (by decide) ?_
      refine r_ic (0) dX0_isSame_19 rfl ?_
      refine r_ireturn dX0_isSame_20 _ rfl rfl ⟨rfl, ?_⟩
      unfold sam
      rw [decide_eq_false e2, Bool.and_false]
      rfl
  · rw [if_neg e1]
    refine r_if_eq_t (tgt := 19) dX0_isSame_6 (by decide) (by decide) ?_
    refine r_ic (0) dX0_isSame_19 rfl ?_
    refine r_ireturn dX0_isSame_20 _ rfl rfl ⟨rfl, ?_⟩
    unfold sam
    rw [decide_eq_false e1]
    rfl
set_option maxRecDepth 10000 in
theorem C_X0_init {d : Nat} {S : zS} {b f l : Nat} (hb : S.2.2 b = .inr (1, [.int 0, .null, .int 0])) (hbl : b < S.1) (hf : f ≤ 65536) (hl : l ≤ 65536) : Rc (d + 1) mX0_init [.ref b, .int (nI f), .int (nI l)] S (fun v S1 => v = none ∧ isB S1 b S.1 f l [] ∧ S1.1 = S.1 + 1 ∧ S1.2.1 = S.2.1 + f ∧ fr S S1 [b]) := by
  refine Rc.of ?_
  refine r_aload_n dX0_init_0 (by first | rfl | assumption) ?_
  refine r_objInit dX0_init_1 zo_X0_1 (by decide) ?_
  refine r_aload_n dX0_init_4 (by first | rfl | assumption) ?_
  refine r_iload_n dX0_init_5 (by first | rfl | assumption) ?_
  refine r_putF dX0_init_6 zF_X0_7 (by assumption) (Nat.le_of_ble_eq_true rfl) ⟨rfl, rfl⟩ rfl ?_
  have hb2 : (z_put S b (.inr (1, [.int (nI l), .null, .int 0]))).2.2 b = .inr (1, [.int (nI l), .null, .int 0]) := va_up_self _ _ _
  have hf2 : fr S (z_put S b (.inr (1, [.int (nI l), .null, .int 0]))) [b] := ⟨Nat.le_refl _, Nat.le_refl _, fun j hj hm => va_up_ne _ _ (fun e => hm (by rw [e]; simp))⟩
  have hz2 : (z_put S b (.inr (1, [.int (nI l), .null, .int 0]))).1 = S.1 ∧ (z_put S b (.inr (1, [.int (nI l), .null, .int 0]))).2.1 = S.2.1 := ⟨rfl, rfl⟩
  show Ru (d + 1) mX0_init _ _ _ (z_put S b (.inr (1, [.int (nI l), .null, .int 0]))) _
  generalize z_put S b (.inr (1, [.int (nI l), .null, .int 0])) = S2 at hb2 hf2 hz2 ⊢
  refine r_aload_n dX0_init_9 (by first | rfl | assumption) ?_
  refine r_ic (0) dX0_init_10 rfl ?_
  refine r_iload_n dX0_init_11 (by first | rfl | assumption) ?_
  refine r_mmax dX0_init_12 zo_X0_13 (by simp [Value.category]) ?_
  have e1 : (if (0 : Int32) < nI f then nI f else 0) = nI f := by
    by_cases q : 0 < f
    · rw [if_pos (by have := nI_lt q (b := f) (by omega); exact this)]
    · rw [show f = 0 by omega]; rfl
  rw [e1]
  refine r_newb dX0_init_15 (nI_pos (by omega)) (nI_clamp (n := f) (by omega)) (by simp [componentBytes]; omega) z_ac_byte ?_
  have hne : b ≠ S2.1 := by omega
  have hb3 : (z_new S2 (.inl (.byte, f, .inl (fun _ => 0))) f).2.2 b = .inr (1, [.int (nI l), .null, .int 0]) := (va_up_ne _ _ hne).trans hb2
  refine r_putf dX0_init_17 zf_X0_19 (by assumption) (Nat.le_of_ble_eq_true rfl) ⟨rfl, rfl⟩ ?_
  refine r_return dX0_init_20 rfl ⟨rfl, ⟨(va_up_self _ _ _).trans (by rw [hz2.1]; rfl), ⟨_, (va_up_ne _ _ (by omega)).trans (by rw [← hz2.1]; exact va_up_self _ _ _), fun k hk => absurd hk (Nat.not_lt_zero _)⟩, Nat.zero_le _, Nat.zero_le _, hf, hl⟩, by show S2.1 + 1 = _; omega, by show S2.2.1 + f = _; omega, ⟨by show S.1 ≤ S2.1 + 1; omega, by show S.2.1 ≤ S2.2.1 + f; omega, fun j hj hm => (va_up_ne _ _ (fun e => hm (by rw [e]; simp))).trans ((va_up_ne _ _ (by omega)).trans (hf2.2.2 j hj hm))⟩⟩

-- the words' numbers: 1 if, 2 else, 3 endif, 4 rept, 5 endr, 6 (macro), 7 endm
set_option maxRecDepth 10000 in
theorem C_X7_spelling {d : Nat} {S : zS} {w : Nat} (h1 : 1 ≤ w) (h7 : w ≤ 7) : Rc d mX7_spelling [.int (nI w)] S (fun v S1 => S1 = S ∧ v = some (.retAddr (w - 1))) := by
  refine Rc.of ?_
  refine r_iload_n dX7_spelling_0 (by first | rfl | assumption) ?_
  rcases (show w = 1 ∨ w = 2 ∨ w = 3 ∨ w = 4 ∨ w = 5 ∨ w = 6 ∨ w = 7 by omega) with rfl | rfl | rfl | rfl | rfl | rfl | rfl
  · refine r_tableIn (tgt := 40) dX7_spelling_1 (by decide) (by decide) rfl (by decide) ?_
    refine r_ldcS (k9 := 0) dX7_spelling_40 ⟨rfl, rfl⟩ ?_
    refine r_areturn dX7_spelling_43 _ rfl (by first | exact Or.inl ⟨_, rfl⟩ | exact Or.inr ⟨_, rfl⟩) (by first | exact Or.inr (Or.inl ⟨_, rfl⟩) | exact Or.inl rfl | exact Or.inr (Or.inr ⟨_, rfl⟩)) ⟨rfl, rfl⟩
  · refine r_tableIn (tgt := 44) dX7_spelling_1 (by decide) (by decide) rfl (by decide) ?_
    refine r_ldcS (k9 := 1) dX7_spelling_44 ⟨rfl, rfl⟩ ?_
    refine r_areturn dX7_spelling_47 _ rfl (by first | exact Or.inl ⟨_, rfl⟩ | exact Or.inr ⟨_, rfl⟩) (by first | exact Or.inr (Or.inl ⟨_, rfl⟩) | exact Or.inl rfl | exact Or.inr (Or.inr ⟨_, rfl⟩)) ⟨rfl, rfl⟩
  · refine r_tableIn (tgt := 48) dX7_spelling_1 (by decide) (by decide) rfl (by decide) ?_
    refine r_ldcS (k9 := 2) dX7_spelling_48 ⟨rfl, rfl⟩ ?_
    refine r_areturn dX7_spelling_51 _ rfl (by first | exact Or.inl ⟨_, rfl⟩ | exact Or.inr ⟨_, rfl⟩) (by first | exact Or.inr (Or.inl ⟨_, rfl⟩) | exact Or.inl rfl | exact Or.inr (Or.inr ⟨_, rfl⟩)) ⟨rfl, rfl⟩
  · refine r_tableIn (tgt := 52) dX7_spelling_1 (by decide) (by decide) rfl (by decide) ?_
    refine r_ldcS (k9 := 3) dX7_spelling_52 ⟨rfl, rfl⟩ ?_
    refine r_areturn dX7_spelling_55 _ rfl (by first | exact Or.inl ⟨_, rfl⟩ | exact Or.inr ⟨_, rfl⟩) (by first | exact Or.inr (Or.inl ⟨_, rfl⟩) | exact Or.inl rfl | exact Or.inr (Or.inr ⟨_, rfl⟩)) ⟨rfl, rfl⟩
  · refine r_tableIn (tgt := 56) dX7_spelling_1 (by decide) (by decide) rfl (by decide) ?_
    refine r_ldcS (k9 := 4) dX7_spelling_56 ⟨rfl, rfl⟩ ?_
    refine r_areturn dX7_spelling_59 _ rfl (by first | exact Or.inl ⟨_, rfl⟩ | exact Or.inr ⟨_, rfl⟩) (by first | exact Or.inr (Or.inl ⟨_, rfl⟩) | exact Or.inl rfl | exact Or.inr (Or.inr ⟨_, rfl⟩)) ⟨rfl, rfl⟩
  · refine r_tableIn (tgt := 60) dX7_spelling_1 (by decide) (by decide) rfl (by decide) ?_
    refine r_ldcS (k9 := 5) dX7_spelling_60 ⟨rfl, rfl⟩ ?_
    refine r_areturn dX7_spelling_63 _ rfl (by first | exact Or.inl ⟨_, rfl⟩ | exact Or.inr ⟨_, rfl⟩) (by first | exact Or.inr (Or.inl ⟨_, rfl⟩) | exact Or.inl rfl | exact Or.inr (Or.inr ⟨_, rfl⟩)) ⟨rfl, rfl⟩
  · refine r_tableOut (tgt := 64) dX7_spelling_1 (by decide) (by decide) ?_
    refine r_ldcS (k9 := 6) dX7_spelling_64 ⟨rfl, rfl⟩ ?_
    refine r_areturn dX7_spelling_67 _ rfl (by first | exact Or.inl ⟨_, rfl⟩ | exact Or.inr ⟨_, rfl⟩) (by first | exact Or.inr (Or.inl ⟨_, rfl⟩) | exact Or.inl rfl | exact Or.inr (Or.inr ⟨_, rfl⟩)) ⟨rfl, rfl⟩
def endW (w : Nat) : Nat := if w = 1 then 3 else if w = 4 then 5 else 7
theorem C_X7_endWord {d : Nat} {S : zS} {w : Nat} (h : w = 1 ∨ w = 4 ∨ w = 6) : Rc d mX7_endWord [.int (nI w)] S (fun v S1 => S1 = S ∧ v = some (.int (nI (endW w)))) := by
  refine Rc.of ?_
  refine r_iload_n dX7_endWord_0 (by first | rfl | assumption) ?_
  rcases h with rfl | rfl | rfl
  · refine r_lookup (tgt := 28) dX7_endWord_1 (by decide) rfl (by decide) ?_
    refine r_ic (3) dX7_endWord_28 rfl ?_
    refine r_ireturn dX7_endWord_29 _ rfl rfl ⟨rfl, rfl⟩
  · refine r_lookup (tgt := 30) dX7_endWord_1 (by decide) rfl (by decide) ?_
    refine r_ic (5) dX7_endWord_30 rfl ?_
    refine r_ireturn dX7_endWord_31 _ rfl rfl ⟨rfl, rfl⟩
  · refine r_lookup (tgt := 32) dX7_endWord_1 (by decide) rfl (by decide) ?_
    refine r_bp (7) dX7_endWord_32 rfl ?_
    refine r_ireturn dX7_endWord_34 _ rfl rfl ⟨rfl, rfl⟩
theorem z_sb_low : ∀ k, k < 7 → ∀ j, j < (z_sb k).length → (z_sb k).getD j 0 < 128 := by decide
theorem z_sb_len : ∀ k, k < 7 → (z_sb k).length < 8 := by decide
theorem seg_getD {xs : List Nat} {a e j : Nat} (h : j < e - a) : (seg xs a e).getD j 0 = xs.getD (a + j) 0 := by
  unfold seg
  rw [List.getD_eq_getElem?_getD, List.getElem?_take_of_lt h, List.getElem?_drop, ← List.getD_eq_getElem?_getD]
theorem list_ext {xs ys : List Nat} (hl : xs.length = ys.length) (h : ∀ j, j < xs.length → xs.getD j 0 = ys.getD j 0) : xs = ys := by
  apply List.ext_getElem hl
  intro i h1 h2
  have := h i h1
  rwa [List.getD_eq_getElem?_getD, List.getD_eq_getElem?_getD, List.getElem?_eq_getElem h1, List.getElem?_eq_getElem h2] at this
set_option maxRecDepth 10000 in
theorem C_X0_spells {d : Nat} {S : zS} {b r cap lim a e k9 : Nat} {xs : List Nat} (h : isB S b r cap lim xs) (hk9 : k9 < 7) (ha : a ≤ e) (he : e ≤ xs.length) : Rc (d + 5) mX0_spells [.ref b, .retAddr k9, .int (nI a), .int (nI e)] S (fun v S1 => S1 = S ∧ v = some (.int (bI (decide (seg xs a e = z_sb k9))))) := by
  have hb := h.1
  have hlim : xs.length ≤ 65536 := Nat.le_trans h.2.2.2.1 h.2.2.2.2.2
  have hlen := z_sb_len k9 hk9
  have hseg := seg_len (i := a) he
  refine Rc.of ?_
  refine r_iload_n dX0_spells_0 (by first | rfl | assumption) ?_
  refine r_iload_n dX0_spells_1 (by first | rfl | assumption) ?_
  refine r_isub dX0_spells_2 ?_
  refine r_aload_nS dX0_spells_3 (by first | rfl | assumption) ?_
  refine r_slen dX0_spells_4 zo_X0_52 hk9 (by simp [Value.category]) ?_
  rw [pk_sub ha]
  by_cases e1 : e - a = (z_sb k9).length
  · refine r_icmp_ne_f (tgt := 22) dX0_spells_7 (by decide) (by rw [e1]) ?_
    refine r_aload_n dX0_spells_10 (by first | rfl | assumption) ?_
    refine r_iload_n dX0_spells_11 (by first | rfl | assumption) ?_
    refine r_aload_nS dX0_spells_12 (by first | rfl | assumption) ?_
    refine r_slen dX0_spells_13 zo_X0_52 hk9 (by simp [Value.category]) ?_
    refine r_callV2 dX0_spells_16 zm_X0_58 (by assumption) rfl (Nat.le_of_ble_eq_true rfl) (Nat.le_of_ble_eq_true rfl) (C_X0_holds h (show a < 2 ^ 20 by omega) (show (z_sb k9).length < 2 ^ 20 by omega)) (fun v S1 hv => ?_)
    obtain ⟨rfl, rfl⟩ := hv
    rw [if_pos (by omega)]
    refine r_if_ne_t (tgt := 24) dX0_spells_19 (by decide) (by decide) ?_
    obtain ⟨-, ⟨g, hr, hg⟩, f1, f2, f3, f4⟩ := h
    have loop : ∀ (k i : Nat) (L : Nat → Option Value), (z_sb k9).length - i = k → i ≤ (z_sb k9).length → (∀ j, j < i → xs.getD (a + j) 0 = (z_sb k9).getD j 0) → L 0 = some (.ref b) → L 1 = some (.retAddr k9) → L 2 = some (.int (nI a)) → L 3 = some (.int (nI e)) → L 4 = some (.int (nI i)) → Ru (d + 5) mX0_spells 27 L [] S1 (z_en mX0_spells (fun v S2 => S2 = S1 ∧ v = some (.int (bI (decide (seg xs a e = z_sb k9)))))) := by
      intro k
      induction k with
      | zero =>
        intro i L hk hi hs l0 l1 l2 l3 l4
        refine r_iload dX0_spells_27 (by first | rfl | assumption) ?_
        refine r_aload_nS dX0_spells_29 (by first | rfl | assumption) ?_
        refine r_slen dX0_spells_30 zo_X0_52 hk9 (by simp [Value.category]) ?_
        refine r_icmp_ge_t (tgt := 62) dX0_spells_33 (by decide) (nI_le (a := (z_sb k9).length) (b := i) (by omega) (by omega)) ?_
        refine r_ic (1) dX0_spells_62 rfl ?_
        refine r_ireturn dX0_spells_63 _ rfl rfl ⟨rfl, ?_⟩
        rw [decide_eq_true (list_ext (by omega) (fun j hj => by rw [seg_getD (by omega)]; exact hs j (by omega)))]
        rfl
      | succ k ih =>
        intro i L hk hi hs l0 l1 l2 l3 l4
        refine r_iload dX0_spells_27 (by first | rfl | assumption) ?_
        refine r_aload_nS dX0_spells_29 (by first | rfl | assumption) ?_
        refine r_slen dX0_spells_30 zo_X0_52 hk9 (by simp [Value.category]) ?_
        refine r_icmp_ge_f (tgt := 62) dX0_spells_33 (by decide) (nI_ge (a := i) (b := (z_sb k9).length) (by omega) (by omega)) ?_
        refine r_aload_n dX0_spells_36 (by first | rfl | assumption) ?_
        refine r_getf dX0_spells_37 zf_X0_19 (by assumption) rfl ?_
        refine r_iload_n dX0_spells_40 (by first | rfl | assumption) ?_
        refine r_iload dX0_spells_41 (by first | rfl | assumption) ?_
        refine r_iadd dX0_spells_43 ?_
        refine r_bald dX0_spells_44 (by assumption) (by rw [nI_add]; exact vp_in_nI (by omega) (by omega)) ?_
        refine r_aload_nS dX0_spells_45 (by first | rfl | assumption) ?_
        refine r_iload dX0_spells_46 (by first | rfl | assumption) ?_
        refine r_schar dX0_spells_48 zo_X0_62 hk9 (show i < (z_sb k9).length by omega) (by simp [Value.category]) ?_
        have q1 : g (nI a + nI i).toNatClampNeg = sb_b (xs.getD (a + i) 0) := by rw [nI_add, nI_clamp (by omega)]; exact (hg _ (by omega)).2
        have q2 := z_sb_low k9 hk9 i (by omega)
        rw [q1, ← sb_low _ q2]
        have q3 := sb_inj (hg (a + i) (by omega)).1 (show (z_sb k9).getD i 0 < 256 by omega)
        refine r_icmp_eq (tgt := 56) dX0_spells_51 (by decide) (fun c51 => ?_) (fun c51 => ?_)
        · refine r_inc (nI (i + 1)) dX0_spells_56 (by first | rfl | assumption) (by decide) (by first | exact z_c1_i (by first | rfl | assumption) | exact z_c1_r (by first | rfl | assumption) | exact z_c1_n (by first | rfl | assumption) | exact z_c1_c (by first | rfl | assumption) | exact z_c1_0 (by first | rfl | assumption)) (nI_1 i) ?_
          refine r_goto (tgt := 27) dX0_spells_59 (by decide) ?_
          refine ih (i + 1) _ (by omega) (by omega) (fun j hj => ?_) l0 l1 l2 l3 rfl
          by_cases e4 : j = i
          · rw [e4]; exact q3.mp c51
          · exact hs j (by omega)
        · refine r_ic (0) dX0_spells_54 rfl ?_
          refine r_ireturn dX0_spells_55 _ rfl rfl ⟨rfl, ?_⟩
          rw [decide_eq_false (fun hc => c51 (q3.mpr (by rw [← hc, seg_getD (by omega)])))]
          rfl
    refine r_ic (0) dX0_spells_24 rfl ?_
    refine r_istore dX0_spells_25 (by decide) (by first | exact z_c1_i (by first | rfl | assumption) | exact z_c1_r (by first | rfl | assumption) | exact z_c1_n (by first | rfl | assumption) | exact z_c1_c (by first | rfl | assumption) | exact z_c1_0 (by first | rfl | assumption)) ?_
    exact loop _ 0 _ rfl (Nat.zero_le _) (fun j hj => absurd hj (Nat.not_lt_zero _)) rfl rfl rfl rfl rfl
  · refine r_icmp_ne_t (tgt := 22) dX0_spells_7 (by decide) (fun q => e1 ((nI_eq (by omega) (by omega)).mp q)) ?_
    refine r_ic (0) dX0_spells_22 rfl ?_
    refine r_ireturn dX0_spells_23 _ rfl rfl ⟨rfl, ?_⟩
    rw [decide_eq_false (fun hc => e1 (by rw [← hc]; omega))]
    rfl
/-- which word it is; 0 for none -/
def wdF (zs : List Nat) : Nat → Nat → Nat
  | 0, _ => 0
  | k + 1, w => if zs = z_sb (w - 1) then w else wdF zs k (w + 1)
def wd (zs : List Nat) : Nat := wdF zs 7 1
set_option maxRecDepth 10000 in
theorem C_X7_wordIn {d : Nat} {S : zS} {b r cap lim a e : Nat} {xs : List Nat} (h : isB S b r cap lim xs) (ha : a ≤ e) (he : e ≤ xs.length) : Rc (d + 6) mX7_wordIn [.ref b, .int (nI a), .int (nI e)] S (fun v S1 => S1 = S ∧ v = some (.int (nI (wd (seg xs a e))))) := by
  have hb := h.1
  refine Rc.of ?_
  have loop : ∀ (k w : Nat) (L : Nat → Option Value), k + w = 8 → 1 ≤ w → wdF (seg xs a e) k w = wd (seg xs a e) → L 0 = some (.ref b) → L 1 = some (.int (nI a)) → L 2 = some (.int (nI e)) → L 3 = some (.int (nI w)) → Ru (d + 6) mX7_wordIn 2 L [] S (z_en mX7_wordIn (fun v S1 => S1 = S ∧ v = some (.int (nI (wd (seg xs a e)))))) := by
    intro k
    induction k with
    | zero =>
      intro w L hk hw hs l0 l1 l2 l3
      refine r_iload_n dX7_wordIn_2 (by first | rfl | assumption) ?_
      refine r_bp (7) dX7_wordIn_3 rfl ?_
      refine r_icmp_gt_t (tgt := 29) dX7_wordIn_5 (by decide) (nI_lt (a := 7) (b := w) (by omega) (by omega)) ?_
      refine r_ic (0) dX7_wordIn_29 rfl ?_
      refine r_ireturn dX7_wordIn_30 _ rfl rfl ⟨rfl, by rw [← hs]; rfl⟩
    | succ k ih =>
      intro w L hk hw hs l0 l1 l2 l3
      refine r_iload_n dX7_wordIn_2 (by first | rfl | assumption) ?_
      refine r_bp (7) dX7_wordIn_3 rfl ?_
      refine r_icmp_gt_f (tgt := 29) dX7_wordIn_5 (by decide) (nI_nlt (a := 7) (b := w) (by omega) (by omega)) ?_
      refine r_aload_n dX7_wordIn_8 (by first | rfl | assumption) ?_
      refine r_iload_n dX7_wordIn_9 (by first | rfl | assumption) ?_
      refine r_callS1 dX7_wordIn_10 zm_X7_294 (Nat.le_of_ble_eq_true rfl) (Nat.le_of_ble_eq_true rfl) (C_X7_spelling (show 1 ≤ w by omega) (show w ≤ 7 by omega)) (fun v S1 hv => ?_)
      obtain ⟨rfl, rfl⟩ := hv
      refine r_iload_n dX7_wordIn_13 (by first | rfl | assumption) ?_
      refine r_iload_n dX7_wordIn_14 (by first | rfl | assumption) ?_
      refine r_callV3 dX7_wordIn_15 zm_X7_298 (by assumption) rfl (Nat.le_of_ble_eq_true rfl) (Nat.le_of_ble_eq_true rfl) (C_X0_spells h (show w - 1 < 7 by omega) ha he) (fun v S1 hv => ?_)
      obtain ⟨rfl, rfl⟩ := hv
      unfold wdF at hs
      refine r_if_eq (tgt := 23) dX7_wordIn_18 (by decide) (fun c18 => ?_) (fun c18 => ?_)
      · rw [bI_0, decide_eq_false_iff_not] at c18
        rw [if_neg c18] at hs
        refine r_inc (nI (w + 1)) dX7_wordIn_23 (by first | rfl | assumption) (by decide) (by first | exact z_c1_i (by first | rfl | assumption) | exact z_c1_r (by first | rfl | assumption) | exact z_c1_n (by first | rfl | assumption) | exact z_c1_c (by first | rfl | assumption) | exact z_c1_0 (by first | rfl | assumption)) (nI_1 w) ?_
        refine r_goto (tgt := 2) dX7_wordIn_26 (by decide) ?_
        exact ih (w + 1) _ (by omega) (by omega) hs l0 l1 l2 rfl
      · rw [bI_0, decide_eq_false_iff_not, Decidable.not_not] at c18
        rw [if_pos c18] at hs
        refine r_iload_n dX7_wordIn_21 (by first | rfl | assumption) ?_
        refine r_ireturn dX7_wordIn_22 _ rfl rfl ⟨rfl, by rw [← hs]⟩
  refine r_ic (1) dX7_wordIn_0 rfl ?_
  refine r_istore_n dX7_wordIn_1 (by decide) (by first | exact z_c1_i (by first | rfl | assumption) | exact z_c1_r (by first | rfl | assumption) | exact z_c1_n (by first | rfl | assumption) | exact z_c1_c (by first | rfl | assumption) | exact z_c1_0 (by first | rfl | assumption)) ?_
  exact loop 7 1 _ rfl (Nat.le_refl _) rfl rfl rfl rfl rfl
