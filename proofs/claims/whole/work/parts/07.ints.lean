/-! INTS: an object b, its row r of cap places, the ints xs -/
def isI (S : zS) (b r cap : Nat) (xs : List Int32) : Prop := S.2.2 b = .inr (2, [.ref r, .int (nI xs.length)]) ∧ (∃ g, S.2.2 r = .inl (.int, cap, .inl g) ∧ ∀ k, k < xs.length → g k = xs.getD k 0) ∧ xs.length ≤ cap ∧ cap ≤ 2 ^ 20
theorem isI.ne {S : zS} {b r cap : Nat} {xs : List Int32} (h : isI S b r cap xs) : b ≠ r := by
  obtain ⟨hb, ⟨g, hr, -⟩, -⟩ := h
  intro e
  rw [e, hr] at hb
  cases hb
def iAt (xs : List Int32) (x : Int32) : Int32 := if x < 0 then 0 else if nI xs.length ≤ x then 0 else xs.getD x.toNatClampNeg 0
theorem iAt_in {xs : List Int32} {k : Nat} (h : k < xs.length) (hl : xs.length < 2 ^ 31) : iAt xs (nI k) = xs.getD k 0 := by
  unfold iAt
  rw [if_neg (nI_pos (by omega)), if_neg (nI_ge h hl), nI_clamp (by omega)]
theorem iAt_out {xs : List Int32} {k : Nat} (h : xs.length ≤ k) (hl : k < 2 ^ 31) : iAt xs (nI k) = 0 := by
  unfold iAt
  rw [if_neg (nI_pos hl), if_pos (nI_le h hl)]
theorem iAt_neg {xs : List Int32} {x : Int32} (h : x < 0) : iAt xs x = 0 := if_pos h
theorem gI_l {xs ys : List Int32} {k : Nat} (h : k < xs.length) : (xs ++ ys).getD k 0 = xs.getD k 0 := by
  rw [List.getD_eq_getElem?_getD, List.getD_eq_getElem?_getD, List.getElem?_append_left h]
theorem gI_r {xs ys : List Int32} {k : Nat} (h : xs.length ≤ k) : (xs ++ ys).getD k 0 = ys.getD (k - xs.length) 0 := by
  rw [List.getD_eq_getElem?_getD, List.getD_eq_getElem?_getD, List.getElem?_append_right h]
set_option maxRecDepth 10000 in
theorem C_X1_size {d : Nat} {S : zS} {b r cap : Nat} {xs : List Int32} (h : isI S b r cap xs) : Rc d mX1_size [.ref b] S (fun v S1 => S1 = S ∧ v = some (.int (nI xs.length))) := by
  obtain ⟨hb, -⟩ := h
  refine Rc.of ?_
  refine r_aload_n dX1_size_0 (by first | rfl | assumption) ?_
  refine r_getf dX1_size_1 zf_X1_13 (by first | assumption | exact z_put_self) rfl ?_
  refine r_ireturn dX1_size_4 _ rfl rfl ⟨rfl, rfl⟩
set_option maxRecDepth 10000 in
theorem C_X1_clear {d : Nat} {S : zS} {b r cap : Nat} {xs : List Int32} (h : isI S b r cap xs) : Rc d mX1_clear [.ref b] S (fun v S1 => v = none ∧ isI S1 b r cap [] ∧ S1.1 = S.1 ∧ S1.2.1 = S.2.1 ∧ fr S S1 [b]) := by
  have hne := h.ne
  obtain ⟨hb, ⟨g, hr, hg⟩, h1, h2⟩ := h
  refine Rc.of ?_
  refine r_aload_n dX1_clear_0 (by first | rfl | assumption) ?_
  refine r_ic (0) dX1_clear_1 rfl ?_
  refine r_putf dX1_clear_2 zf_X1_13 (by first | assumption | exact z_put_self) (Nat.le_of_ble_eq_true rfl) ⟨rfl, rfl⟩ ?_
  refine r_return dX1_clear_5 rfl ⟨rfl, ⟨va_up_self _ _ _, ⟨g, (va_up_ne _ _ hne.symm).trans hr, fun k hk => absurd hk (Nat.not_lt_zero _)⟩, Nat.zero_le _, h2⟩, rfl, rfl, Nat.le_refl _, Nat.le_refl _, fun j _ hj => va_up_ne _ _ (fun e => hj (by rw [e]; exact List.mem_singleton.mpr rfl))⟩
set_option maxRecDepth 10000 in
theorem C_X1_at {d : Nat} {S : zS} {b r cap : Nat} {xs : List Int32} {x : Int32} (h : isI S b r cap xs) : Rc d mX1_at [.ref b, .int x] S (fun v S1 => S1 = S ∧ v = some (.int (iAt xs x))) := by
  obtain ⟨hb, ⟨g, hr, hg⟩, h1, h2⟩ := h
  refine Rc.of ?_
  refine r_iload_n dX1_at_0 (by first | rfl | assumption) ?_
  refine r_if_lt (tgt := 30) dX1_at_1 (by decide) (fun c1 => ?_) (fun c1 => ?_)
  · refine r_ic (0) dX1_at_30 rfl ?_
    refine r_ireturn dX1_at_31 _ rfl rfl ⟨rfl, ?_⟩
    unfold iAt
    rw [if_pos c1]
  · refine r_iload_n dX1_at_4 (by first | rfl | assumption) ?_
    refine r_aload_n dX1_at_5 (by first | rfl | assumption) ?_
    refine r_getf dX1_at_6 zf_X1_13 (by first | assumption | exact z_put_self) rfl ?_
    refine r_icmp_ge (tgt := 30) dX1_at_9 (by decide) (fun c9 => ?_) (fun c9 => ?_)
    · refine r_ic (0) dX1_at_30 rfl ?_
      refine r_ireturn dX1_at_31 _ rfl rfl ⟨rfl, ?_⟩
      unfold iAt
      rw [if_neg c1, if_pos c9]
    · obtain ⟨j, hj, rfl⟩ : ∃ j : Nat, j < xs.length ∧ x = nI j := by
        rcases pk_ix x (n := xs.length) (by omega) with q | q | q
        · exact absurd q c1
        · exact absurd q c9
        · exact q
      refine r_iload_n dX1_at_12 (by first | rfl | assumption) ?_
      refine r_aload_n dX1_at_13 (by first | rfl | assumption) ?_
      refine r_getf dX1_at_14 zf_X1_7 (by first | assumption | exact z_put_self) rfl ?_
      refine r_alen dX1_at_17 (by assumption) ?_
      refine r_icmp_ge_f (tgt := 30) dX1_at_18 (by decide) (nI_ge (a := j) (b := cap) (by omega) (by omega)) ?_
      refine r_aload_n dX1_at_21 (by first | rfl | assumption) ?_
      refine r_getf dX1_at_22 zf_X1_7 (by first | assumption | exact z_put_self) rfl ?_
      refine r_iload_n dX1_at_25 (by first | rfl | assumption) ?_
      refine r_iald dX1_at_26 (by assumption) (vp_in_nI (by omega) (by omega)) ?_
      refine r_goto (tgt := 31) dX1_at_27 (by decide) ?_
      refine r_ireturn dX1_at_31 _ rfl rfl ⟨rfl, ?_⟩
      rw [iAt_in hj (by omega), nI_clamp (by omega), hg j hj]
/-- add: the int is behind the others -/
def iPost (S : zS) (b r cap : Nat) (xs : List Int32) (y : Int32) (v : Option Value) (S1 : zS) : Prop :=
  v = none ∧ ∃ r1 cp, isI S1 b r1 cp (xs ++ [y]) ∧ fr S S1 [b, r] ∧ ((r1 = r ∧ cp = cap ∧ S1.1 = S.1 ∧ S1.2.1 = S.2.1) ∨ (r1 = S.1 ∧ cp = 2 * cap + 8 ∧ cap = xs.length ∧ S1.1 = S.1 + 1 ∧ S1.2.1 = S.2.1 + cp))
set_option maxRecDepth 10000 in
set_option maxHeartbeats 1000000 in
theorem C_X1_add {d : Nat} {S : zS} {b r cap : Nat} {xs : List Int32} {y : Int32} (h : isI S b r cap xs) (hlt : b < S.1 ∧ r < S.1) (hlen : xs.length ≤ 131072) : Rc (d + 3) mX1_add [.ref b, .int y] S (iPost S b r cap xs y) := by
  have hne := h.ne
  obtain ⟨hb, ⟨g, hr, hg⟩, h1, h2⟩ := h
  refine Rc.of ?_
  have K : ∀ (S2 : zS) (r2 cp2 : Nat) (g2 : Nat → Int32), S2.2.2 b = .inr (2, [.ref r2, .int (nI xs.length)]) → S2.2.2 r2 = .inl (.int, cp2, .inl g2) → xs.length < cp2 → cp2 ≤ 2 ^ 20 → (∀ k, k < xs.length → g2 k = xs.getD k 0) → b ≠ r2 → fr S S2 [b, r] → (r2 = r ∨ r2 = S.1) → ((r2 = r ∧ cp2 = cap ∧ S2.1 = S.1 ∧ S2.2.1 = S.2.1) ∨ (r2 = S.1 ∧ cp2 = 2 * cap + 8 ∧ cap = xs.length ∧ S2.1 = S.1 + 1 ∧ S2.2.1 = S.2.1 + cp2)) → Ru (d + 3) mX1_add 33 (z_lf (lv_args 0 [.ref b, .int y])) [] S2 (z_en mX1_add (iPost S b r cap xs y)) := by
    intro S2 r2 cp2 g2 hb2 hr2 hc2 hcp hg2 hn2 hf hr9 hcnt
    refine r_aload_n dX1_add_33 (by first | rfl | assumption) ?_
    refine r_getf dX1_add_34 zf_X1_7 (by first | assumption | exact z_put_self) rfl ?_
    refine r_aload_n dX1_add_37 (by first | rfl | assumption) ?_
    refine r_getf dX1_add_38 zf_X1_13 (by first | assumption | exact z_put_self) rfl ?_
    refine r_iload_n dX1_add_41 (by first | rfl | assumption) ?_
    refine r_iast dX1_add_42 hr2 (vp_in_nI hc2 (by omega)) ?_
    have hb3 : (z_put S2 r2 (.inl (.int, cp2, .inl (upd g2 (nI xs.length).toNatClampNeg y)))).2.2 b = .inr (2, [.ref r2, .int (nI xs.length)]) := (va_up_ne _ _ hn2).trans hb2
    have hr3 : (z_put S2 r2 (.inl (.int, cp2, .inl (upd g2 (nI xs.length).toNatClampNeg y)))).2.2 r2 = .inl (.int, cp2, .inl (upd g2 (nI xs.length).toNatClampNeg y)) := va_up_self _ _ _
    have hf3 : fr S (z_put S2 r2 (.inl (.int, cp2, .inl (upd g2 (nI xs.length).toNatClampNeg y)))) [b, r] := ⟨hf.1, hf.2.1, fun j hj hm => (va_up_ne _ _ (fun e => by
      rcases hr9 with q | q
      · exact hm (by rw [e, q]; simp)
      · omega)).trans (hf.2.2 j hj hm)⟩
    have hz3 : (z_put S2 r2 (.inl (.int, cp2, .inl (upd g2 (nI xs.length).toNatClampNeg y)))).1 = S2.1 ∧ (z_put S2 r2 (.inl (.int, cp2, .inl (upd g2 (nI xs.length).toNatClampNeg y)))).2.1 = S2.2.1 := ⟨rfl, rfl⟩
    generalize z_put S2 r2 (.inl (.int, cp2, .inl (upd g2 (nI xs.length).toNatClampNeg y))) = S3 at hb3 hr3 hf3 hz3 ⊢
    rw [← hz3.1, ← hz3.2] at hcnt
    refine r_aload_n dX1_add_43 (by first | rfl | assumption) ?_
    refine r_dup dX1_add_44 rfl ?_
    refine r_getf dX1_add_45 zf_X1_13 (by first | assumption | exact z_put_self) rfl ?_
    refine r_ic (1) dX1_add_48 rfl ?_
    refine r_iadd dX1_add_49 ?_
    refine r_putf dX1_add_50 zf_X1_13 (by first | assumption | exact z_put_self) (Nat.le_of_ble_eq_true rfl) ⟨rfl, rfl⟩ ?_
    refine r_return dX1_add_53 rfl ?_
    refine ⟨rfl, r2, cp2, ⟨?_, ⟨_, (va_up_ne _ _ hn2.symm).trans hr3, ?_⟩, ?_, hcp⟩, ⟨hf3.1, hf3.2.1, fun j hj hm => (va_up_ne _ _ (fun e => hm (by rw [e]; simp))).trans (hf3.2.2 j hj hm)⟩, hcnt⟩
    · refine (va_up_self _ _ _).trans ?_
      rw [List.length_append, List.length_singleton, ← nI_1]
      rfl
    · intro k hk
      rw [List.length_append, List.length_singleton] at hk
      rw [nI_clamp (by omega)]
      by_cases e : k = xs.length
      · subst e
        rw [pk_us, gI_r (Nat.le_refl _), Nat.sub_self]
        rfl
      · rw [pk_un e, gI_l (by omega)]
        exact hg2 k (by omega)
    · rw [List.length_append, List.length_singleton]; omega
  refine r_aload_n dX1_add_0 (by first | rfl | assumption) ?_
  refine r_getf dX1_add_1 zf_X1_13 (by first | assumption | exact z_put_self) rfl ?_
  refine r_aload_n dX1_add_4 (by first | rfl | assumption) ?_
  refine r_getf dX1_add_5 zf_X1_7 (by first | assumption | exact z_put_self) rfl ?_
  refine r_alen dX1_add_8 (by assumption) ?_
  refine r_icmp_lt (tgt := 33) dX1_add_9 (by decide) (fun c9 => ?_) (fun c9 => ?_)
  · have hc : xs.length < cap := by
      rcases Nat.lt_or_ge xs.length cap with q | q
      · exact q
      · exact absurd c9 (nI_nlt q (by omega))
    exact K S r cap g hb hr hc h2 hg hne fr_rf (Or.inl rfl) (Or.inl ⟨rfl, rfl, rfl, rfl⟩)
  · have hc : xs.length = cap := by
      rcases Nat.lt_or_ge xs.length cap with q | q
      · exact absurd (nI_lt q (by omega)) c9
      · omega
    refine r_aload_n dX1_add_12 (by first | rfl | assumption) ?_
    refine r_aload_n dX1_add_13 (by first | rfl | assumption) ?_
    refine r_getf dX1_add_14 zf_X1_7 (by first | assumption | exact z_put_self) rfl ?_
    refine r_ic (2) dX1_add_17 rfl ?_
    refine r_aload_n dX1_add_18 (by first | rfl | assumption) ?_
    refine r_getf dX1_add_19 zf_X1_7 (by first | assumption | exact z_put_self) rfl ?_
    refine r_alen dX1_add_22 (by assumption) ?_
    refine r_imul dX1_add_23 ?_
    refine r_bp (8) dX1_add_24 rfl ?_
    refine r_iadd dX1_add_26 ?_
    have e2 : (2 : Int32) * Int32.ofNat (cap, (Sum.inl g : (Nat → Int32) ⊕ (Nat → Int64) ⊕ (Nat → UInt32) ⊕ (Nat → UInt64) ⊕ (Nat → Option Nat))).1 + 8 = nI (2 * cap + 8) := by
      show nI 2 * nI cap + nI 8 = _
      rw [pk_mul, nI_add]
    rw [e2]
    refine r_copyI dX1_add_27 zo_X1_17 hr hlt.2 ⟨by omega, by omega⟩ (by simp [Value.category]) ?_
    have hb2 : (z_new S (.inl (.int, 2 * cap + 8, .inl (va_cpy g (fun _ => 0) 0 0 cap))) (2 * cap + 8)).2.2 b = .inr (2, [.ref r, .int (nI xs.length)]) := (va_up_ne _ _ (Nat.ne_of_lt hlt.1)).trans hb
    have hr2 : (z_new S (.inl (.int, 2 * cap + 8, .inl (va_cpy g (fun _ => 0) 0 0 cap))) (2 * cap + 8)).2.2 S.1 = .inl (.int, 2 * cap + 8, .inl (va_cpy g (fun _ => 0) 0 0 cap)) := va_up_self _ _ _
    have hf2 : fr S (z_new S (.inl (.int, 2 * cap + 8, .inl (va_cpy g (fun _ => 0) 0 0 cap))) (2 * cap + 8)) [b, r] := ⟨Nat.le_succ _, Nat.le_add_right _ _, fun j hj _ => va_up_ne _ _ (Nat.ne_of_lt hj)⟩
    have hz1 : (z_new S (.inl (.int, 2 * cap + 8, .inl (va_cpy g (fun _ => 0) 0 0 cap))) (2 * cap + 8)).1 = S.1 + 1 ∧ (z_new S (.inl (.int, 2 * cap + 8, .inl (va_cpy g (fun _ => 0) 0 0 cap))) (2 * cap + 8)).2.1 = S.2.1 + (2 * cap + 8) := ⟨rfl, rfl⟩
    generalize z_new S (.inl (.int, 2 * cap + 8, .inl (va_cpy g (fun _ => 0) 0 0 cap))) (2 * cap + 8) = S2 at hb2 hr2 hf2 hz1 ⊢
    refine r_putf dX1_add_30 zf_X1_7 (by first | assumption | exact z_put_self) (Nat.le_of_ble_eq_true rfl) ⟨rfl, rfl⟩ ?_
    exact K _ S.1 (2 * cap + 8) _ (va_up_self _ _ _) ((va_up_ne _ _ (Nat.ne_of_gt hlt.1)).trans hr2) (by omega) (by omega) (fun k hk => by rw [pk_cpy_in (Nat.zero_le _) (by omega)]; simpa using hg k hk) (Nat.ne_of_lt hlt.1) ⟨hf2.1, hf2.2.1, fun j hj hm => (va_up_ne _ _ (fun e => hm (by rw [e]; simp))).trans (hf2.2.2 j hj hm)⟩ (Or.inr rfl) (Or.inr ⟨rfl, rfl, by omega, hz1.1, hz1.2⟩)
