/-! BYTES: an object b of limit lim, its row r of cap places, the bytes xs -/
def byB (g : Nat → Int32) (xs : List Nat) : Prop := ∀ k, k < xs.length → xs.getD k 0 < 256 ∧ g k = sb_b (xs.getD k 0)
def isB (S : zS) (b r cap lim : Nat) (xs : List Nat) : Prop := S.2.2 b = .inr (1, [.int (nI lim), .ref r, .int (nI xs.length)]) ∧ (∃ g, S.2.2 r = .inl (.byte, cap, .inl g) ∧ byB g xs) ∧ xs.length ≤ cap ∧ xs.length ≤ lim ∧ cap ≤ 65536 ∧ lim ≤ 65536
theorem isB.ne {S : zS} {b r cap lim : Nat} {xs : List Nat} (h : isB S b r cap lim xs) : b ≠ r := by
  obtain ⟨hb, ⟨g, hr, -⟩, -⟩ := h
  intro e
  rw [e, hr] at hb
  cases hb
theorem gD_l {xs ys : List Nat} {k : Nat} (h : k < xs.length) : (xs ++ ys).getD k 0 = xs.getD k 0 := by
  rw [List.getD_eq_getElem?_getD, List.getD_eq_getElem?_getD, List.getElem?_append_left h]
theorem gD_r {xs ys : List Nat} {k : Nat} (h : xs.length ≤ k) : (xs ++ ys).getD k 0 = ys.getD (k - xs.length) 0 := by
  rw [List.getD_eq_getElem?_getD, List.getD_eq_getElem?_getD, List.getElem?_append_right h]
/-- what a read of a place answers -/
def bAt (xs : List Nat) (x : Int32) : Int32 := if x < 0 then -1 else if nI xs.length ≤ x then -1 else nI (xs.getD x.toNatClampNeg 0)
theorem bAt_in {xs : List Nat} {k : Nat} (h : k < xs.length) (hl : xs.length < 2 ^ 31) : bAt xs (nI k) = nI (xs.getD k 0) := by
  unfold bAt
  rw [if_neg (nI_pos (by omega)), if_neg (nI_ge h hl), nI_clamp (by omega)]
theorem bAt_out {xs : List Nat} {k : Nat} (h : xs.length ≤ k) (hl : k < 2 ^ 31) : bAt xs (nI k) = -1 := by
  unfold bAt
  rw [if_neg (nI_pos hl), if_pos (nI_le h hl)]
/-- what a call leaves as it was: all cells but those of W -/
def fr (S S1 : zS) (W : List Nat) : Prop := S.1 ≤ S1.1 ∧ S.2.1 ≤ S1.2.1 ∧ ∀ j, j < S.1 → j ∉ W → S1.2.2 j = S.2.2 j
theorem fr_rf {S : zS} {W : List Nat} : fr S S W := ⟨Nat.le_refl _, Nat.le_refl _, fun _ _ _ => rfl⟩
/-- the byte that is kept of an int -/
def ob (y : Int32) : Nat := y.toBitVec.toNat % 256
theorem ob_lt (y : Int32) : ob y < 256 := Nat.mod_lt _ (by decide)
theorem ob_nI {c : Nat} (h : c < 256) : ob (nI c) = c := by
  unfold ob
  rw [pk_tn (by omega)]
  omega
theorem ob_b (y : Int32) : y.toInt8.toInt32 = sb_b (ob y) := by
  unfold sb_b ob
  congr 1
  apply Int8.toBitVec_inj.mp
  rw [Int32.toBitVec_toInt8, Int32.toBitVec_toInt8, BitVec.signExtend_eq_setWidth_of_le _ (by decide), BitVec.signExtend_eq_setWidth_of_le _ (by decide)]
  apply BitVec.eq_of_toNat_eq
  rw [BitVec.toNat_setWidth, BitVec.toNat_setWidth, pk_tn (by omega)]
  omega
set_option maxRecDepth 10000 in
theorem C_X0_size {d : Nat} {S : zS} {b r cap lim : Nat} {xs : List Nat} (h : isB S b r cap lim xs) : Rc d mX0_size [.ref b] S (fun v S1 => S1 = S ∧ v = some (.int (nI xs.length))) := by
  obtain ⟨hb, -⟩ := h
  refine Rc.of ?_
  refine r_aload_n dX0_size_0 (by first | rfl | assumption) ?_
  refine r_getf dX0_size_1 zf_X0_23 (by first | assumption | exact z_put_self) rfl ?_
  refine r_ireturn dX0_size_4 _ rfl rfl ⟨rfl, rfl⟩
set_option maxRecDepth 10000 in
theorem C_X0_clear {d : Nat} {S : zS} {b r cap lim : Nat} {xs : List Nat} (h : isB S b r cap lim xs) : Rc d mX0_clear [.ref b] S (fun v S1 => v = none ∧ isB S1 b r cap lim [] ∧ S1.1 = S.1 ∧ S1.2.1 = S.2.1 ∧ fr S S1 [b]) := by
  have hne := h.ne
  obtain ⟨hb, ⟨g, hr, hg⟩, h1, h2, h3, h4⟩ := h
  refine Rc.of ?_
  refine r_aload_n dX0_clear_0 (by first | rfl | assumption) ?_
  refine r_ic (0) dX0_clear_1 rfl ?_
  refine r_putf dX0_clear_2 zf_X0_23 (by first | assumption | exact z_put_self) (Nat.le_of_ble_eq_true rfl) ⟨rfl, rfl⟩ ?_
  refine r_return dX0_clear_5 rfl ⟨rfl, ⟨va_up_self _ _ _, ⟨g, (va_up_ne _ _ hne.symm).trans hr, fun k hk => absurd hk (Nat.not_lt_zero _)⟩, Nat.zero_le _, Nat.zero_le _, h3, h4⟩, rfl, rfl, Nat.le_refl _, Nat.le_refl _, fun j _ hj => va_up_ne _ _ (fun e => hj (by rw [e]; exact List.mem_singleton.mpr rfl))⟩
set_option maxRecDepth 10000 in
theorem C_X0_at {d : Nat} {S : zS} {b r cap lim : Nat} {xs : List Nat} {x : Int32} (h : isB S b r cap lim xs) : Rc d mX0_at [.ref b, .int x] S (fun v S1 => S1 = S ∧ v = some (.int (bAt xs x))) := by
  obtain ⟨hb, ⟨g, hr, hg⟩, h1, h2, h3, h4⟩ := h
  refine Rc.of ?_
  refine r_iload_n dX0_at_0 (by first | rfl | assumption) ?_
  refine r_if_lt (tgt := 34) dX0_at_1 (by decide) (fun c1 => ?_) (fun c1 => ?_)
  · refine r_ic (-1) dX0_at_34 rfl ?_
    refine r_ireturn dX0_at_35 _ rfl rfl ⟨rfl, ?_⟩
    unfold bAt
    rw [if_pos c1]
  · refine r_iload_n dX0_at_4 (by first | rfl | assumption) ?_
    refine r_aload_n dX0_at_5 (by first | rfl | assumption) ?_
    refine r_getf dX0_at_6 zf_X0_23 (by first | assumption | exact z_put_self) rfl ?_
    refine r_icmp_ge (tgt := 34) dX0_at_9 (by decide) (fun c9 => ?_) (fun c9 => ?_)
    · refine r_ic (-1) dX0_at_34 rfl ?_
      refine r_ireturn dX0_at_35 _ rfl rfl ⟨rfl, ?_⟩
      unfold bAt
      rw [if_neg c1, if_pos c9]
    · obtain ⟨j, hj, rfl⟩ : ∃ j : Nat, j < xs.length ∧ x = nI j := by
        rcases pk_ix x (n := xs.length) (by omega) with q | q | q
        · exact absurd q c1
        · exact absurd q c9
        · exact q
      refine r_iload_n dX0_at_12 (by first | rfl | assumption) ?_
      refine r_aload_n dX0_at_13 (by first | rfl | assumption) ?_
      refine r_getf dX0_at_14 zf_X0_19 (by first | assumption | exact z_put_self) rfl ?_
      refine r_alen dX0_at_17 (by assumption) ?_
      refine r_icmp_ge_f (tgt := 34) dX0_at_18 (by decide) (nI_ge (a := j) (b := cap) (by omega) (by omega)) ?_
      refine r_aload_n dX0_at_21 (by first | rfl | assumption) ?_
      refine r_getf dX0_at_22 zf_X0_19 (by first | assumption | exact z_put_self) rfl ?_
      refine r_iload_n dX0_at_25 (by first | rfl | assumption) ?_
      refine r_bald dX0_at_26 (by assumption) (vp_in_nI (by omega) (by omega)) ?_
      refine r_sp (255) dX0_at_27 rfl ?_
      refine r_iand dX0_at_30 ?_
      refine r_goto (tgt := 35) dX0_at_31 (by decide) ?_
      refine r_ireturn dX0_at_35 _ rfl rfl ⟨rfl, ?_⟩
      rw [bAt_in hj (by omega), nI_clamp (by omega), (hg j hj).2, (sb_byte _ (hg j hj).1).1]
set_option maxRecDepth 10000 in
theorem C_X0_holds {d : Nat} {S : zS} {b r cap lim a l : Nat} {xs : List Nat} (h : isB S b r cap lim xs) (ha : a < 2 ^ 20) (hl : l < 2 ^ 20) : Rc d mX0_holds [.ref b, .int (nI a), .int (nI l)] S (fun v S1 => S1 = S ∧ v = some (.int (if a + l ≤ xs.length then 1 else 0))) := by
  obtain ⟨hb, -, h1, h2, h3, h4⟩ := h
  refine Rc.of ?_
  refine r_iload_n dX0_holds_0 (by first | rfl | assumption) ?_
  refine r_if_lt_f (tgt := 22) dX0_holds_1 (by decide) (nI_pos (by omega)) ?_
  refine r_iload_n dX0_holds_4 (by first | rfl | assumption) ?_
  refine r_if_lt_f (tgt := 22) dX0_holds_5 (by decide) (nI_pos (by omega)) ?_
  refine r_iload_n dX0_holds_8 (by first | rfl | assumption) ?_
  refine r_aload_n dX0_holds_9 (by first | rfl | assumption) ?_
  refine r_getf dX0_holds_10 zf_X0_23 (by first | assumption | exact z_put_self) rfl ?_
  refine r_iload_n dX0_holds_13 (by first | rfl | assumption) ?_
  refine r_isub dX0_holds_14 ?_
  have key : (nI xs.length - nI a < nI l) ↔ ¬ a + l ≤ xs.length := by
    rw [Int32.lt_iff_toInt_lt, pk_sub_toInt (by omega) (by omega), nI_toInt (by omega)]
    omega
  refine r_icmp_gt (tgt := 22) dX0_holds_15 (by decide) (fun c15 => ?_) (fun c15 => ?_)
  · refine r_ic (0) dX0_holds_22 rfl ?_
    refine r_ireturn dX0_holds_23 _ rfl rfl ⟨rfl, ?_⟩
    rw [if_neg (key.mp c15)]
  · refine r_ic (1) dX0_holds_18 rfl ?_
    refine r_goto (tgt := 23) dX0_holds_19 (by decide) ?_
    refine r_ireturn dX0_holds_23 _ rfl rfl ⟨rfl, ?_⟩
    rw [if_pos (Decidable.of_not_not (fun q => c15 (key.mpr q)))]
def cap1 (lim cap : Nat) : Nat := if lim < 2 * cap + 16 then lim else 2 * cap + 16
/-- append: the byte is behind the others, or there is no room -/
def bPost (S : zS) (b r cap lim : Nat) (xs : List Nat) (c : Nat) (v : Option Value) (S1 : zS) : Prop :=
  (xs.length < lim ∧ v = some (.int 1) ∧ ∃ r1 cp, isB S1 b r1 cp lim (xs ++ [c]) ∧ fr S S1 [b, r] ∧ ((r1 = r ∧ cp = cap ∧ S1.1 = S.1 ∧ S1.2.1 = S.2.1) ∨ (r1 = S.1 ∧ cp = cap1 lim cap ∧ cap < lim ∧ S1.1 = S.1 + 1 ∧ S1.2.1 = S.2.1 + cp))) ∨ (xs.length = lim ∧ v = some (.int 0) ∧ S1 = S)
set_option maxRecDepth 10000 in
set_option maxHeartbeats 1000000 in
theorem C_X0_append {d : Nat} {S : zS} {b r cap lim : Nat} {xs : List Nat} {y : Int32} (h : isB S b r cap lim xs) (hlt : b < S.1 ∧ r < S.1) : Rc (d + 3) mX0_append [.ref b, .int y] S (bPost S b r cap lim xs (ob y)) := by
  have hne := h.ne
  obtain ⟨hb, ⟨g, hr, hg⟩, h1, h2, h3, h4⟩ := h
  refine Rc.of ?_
  refine r_aload_n dX0_append_0 (by first | rfl | assumption) ?_
  refine r_getf dX0_append_1 zf_X0_23 (by first | assumption | exact z_put_self) rfl ?_
  refine r_aload_n dX0_append_4 (by first | rfl | assumption) ?_
  refine r_getf dX0_append_5 zf_X0_7 (by first | assumption | exact z_put_self) rfl ?_
  refine r_icmp_lt (tgt := 13) dX0_append_8 (by decide) (fun c8 => ?_) (fun c8 => ?_)
  · have hroom : xs.length < lim := by
      rcases Nat.lt_or_ge xs.length lim with q | q
      · exact q
      · exact absurd c8 (nI_nlt q (by omega))
    have K : ∀ (S2 : zS) (r2 cp2 : Nat) (g2 : Nat → Int32), S2.2.2 b = .inr (1, [.int (nI lim), .ref r2, .int (nI xs.length)]) → S2.2.2 r2 = .inl (.byte, cp2, .inl g2) → xs.length < cp2 → cp2 ≤ 65536 → byB g2 xs → b ≠ r2 → fr S S2 [b, r] → (r2 = r ∨ r2 = S.1) → ((r2 = r ∧ cp2 = cap ∧ S2.1 = S.1 ∧ S2.2.1 = S.2.1) ∨ (r2 = S.1 ∧ cp2 = cap1 lim cap ∧ cap < lim ∧ S2.1 = S.1 + 1 ∧ S2.2.1 = S.2.1 + cp2)) → Ru (d + 3) mX0_append 53 (z_lf (lv_args 0 [.ref b, .int y])) [] S2 (z_en mX0_append (bPost S b r cap lim xs (ob y))) := by
      intro S2 r2 cp2 g2 hb2 hr2 hc2 hcp hg2 hn2 hf hr9 hcnt
      refine r_aload_n dX0_append_53 (by first | rfl | assumption) ?_
      refine r_getf dX0_append_54 zf_X0_19 (by first | assumption | exact z_put_self) rfl ?_
      refine r_aload_n dX0_append_57 (by first | rfl | assumption) ?_
      refine r_getf dX0_append_58 zf_X0_23 (by first | assumption | exact z_put_self) rfl ?_
      refine r_iload_n dX0_append_61 (by first | rfl | assumption) ?_
      refine r_i2b dX0_append_62 ?_
      refine r_bast dX0_append_63 hr2 (vp_in_nI hc2 (by omega)) ?_
      have hb3 : (z_put S2 r2 (.inl (.byte, cp2, .inl (upd g2 (nI xs.length).toNatClampNeg (vp_nar .byte y.toInt8.toInt32))))).2.2 b = .inr (1, [.int (nI lim), .ref r2, .int (nI xs.length)]) := (va_up_ne _ _ hn2).trans hb2
      have hr3 : (z_put S2 r2 (.inl (.byte, cp2, .inl (upd g2 (nI xs.length).toNatClampNeg (vp_nar .byte y.toInt8.toInt32))))).2.2 r2 = .inl (.byte, cp2, .inl (upd g2 (nI xs.length).toNatClampNeg (vp_nar .byte y.toInt8.toInt32))) := va_up_self _ _ _
      have hf3 : fr S (z_put S2 r2 (.inl (.byte, cp2, .inl (upd g2 (nI xs.length).toNatClampNeg (vp_nar .byte y.toInt8.toInt32))))) [b, r] := ⟨hf.1, hf.2.1, fun j hj hm => (va_up_ne _ _ (fun e => by
        rcases hr9 with q | q
        · exact hm (by rw [e, q]; simp)
        · omega)).trans (hf.2.2 j hj hm)⟩
      have hcnt3 : (r2 = r ∧ cp2 = cap ∧ (z_put S2 r2 (.inl (.byte, cp2, .inl (upd g2 (nI xs.length).toNatClampNeg (vp_nar .byte y.toInt8.toInt32))))).1 = S.1 ∧ (z_put S2 r2 (.inl (.byte, cp2, .inl (upd g2 (nI xs.length).toNatClampNeg (vp_nar .byte y.toInt8.toInt32))))).2.1 = S.2.1) ∨ (r2 = S.1 ∧ cp2 = cap1 lim cap ∧ cap < lim ∧ (z_put S2 r2 (.inl (.byte, cp2, .inl (upd g2 (nI xs.length).toNatClampNeg (vp_nar .byte y.toInt8.toInt32))))).1 = S.1 + 1 ∧ (z_put S2 r2 (.inl (.byte, cp2, .inl (upd g2 (nI xs.length).toNatClampNeg (vp_nar .byte y.toInt8.toInt32))))).2.1 = S.2.1 + cp2) := hcnt
      generalize z_put S2 r2 (.inl (.byte, cp2, .inl (upd g2 (nI xs.length).toNatClampNeg (vp_nar .byte y.toInt8.toInt32)))) = S3 at hb3 hr3 hf3 hcnt3 ⊢
      refine r_aload_n dX0_append_64 (by first | rfl | assumption) ?_
      refine r_dup dX0_append_65 rfl ?_
      refine r_getf dX0_append_66 zf_X0_23 (by first | assumption | exact z_put_self) rfl ?_
      refine r_ic (1) dX0_append_69 rfl ?_
      refine r_iadd dX0_append_70 ?_
      refine r_putf dX0_append_71 zf_X0_23 (by first | assumption | exact z_put_self) (Nat.le_of_ble_eq_true rfl) ⟨rfl, rfl⟩ ?_
      refine r_ic (1) dX0_append_74 rfl ?_
      refine r_ireturn dX0_append_75 _ rfl rfl ?_
      refine Or.inl ⟨hroom, rfl, r2, cp2, ⟨?_, ⟨_, (va_up_ne _ _ hn2.symm).trans hr3, ?_⟩, ?_, ?_, hcp, h4⟩, ⟨hf3.1, hf3.2.1, fun j hj hm => (va_up_ne _ _ (fun e => hm (by rw [e]; simp))).trans (hf3.2.2 j hj hm)⟩, hcnt3⟩
      · refine (va_up_self _ _ _).trans ?_
        rw [List.length_append, List.length_singleton, ← nI_1]
        rfl
      · intro k hk
        rw [List.length_append, List.length_singleton] at hk
        rw [nI_clamp (by omega)]
        by_cases e : k = xs.length
        · subst e
          rw [pk_us, pk_vb, ob_b, gD_r (Nat.le_refl _), Nat.sub_self]
          exact ⟨ob_lt y, rfl⟩
        · rw [pk_un e, gD_l (by omega)]
          exact hg2 k (by omega)
      · rw [List.length_append, List.length_singleton]; omega
      · rw [List.length_append, List.length_singleton]; omega
    refine r_aload_n dX0_append_13 (by first | rfl | assumption) ?_
    refine r_getf dX0_append_14 zf_X0_23 (by first | assumption | exact z_put_self) rfl ?_
    refine r_aload_n dX0_append_17 (by first | rfl | assumption) ?_
    refine r_getf dX0_append_18 zf_X0_19 (by first | assumption | exact z_put_self) rfl ?_
    refine r_alen dX0_append_21 (by assumption) ?_
    refine r_icmp_lt (tgt := 53) dX0_append_22 (by decide) (fun c22 => ?_) (fun c22 => ?_)
    · have hc : xs.length < cap := by
        rcases Nat.lt_or_ge xs.length cap with q | q
        · exact q
        · exact absurd c22 (nI_nlt q (by omega))
      exact K S r cap g hb hr hc h3 hg hne fr_rf (Or.inl rfl) (Or.inl ⟨rfl, rfl, rfl, rfl⟩)
    · have hc : xs.length = cap := by
        rcases Nat.lt_or_ge xs.length cap with q | q
        · exact absurd (nI_lt q (by omega)) c22
        · omega
      refine r_aload_n dX0_append_25 (by first | rfl | assumption) ?_
      refine r_aload_n dX0_append_26 (by first | rfl | assumption) ?_
      refine r_getf dX0_append_27 zf_X0_19 (by first | assumption | exact z_put_self) rfl ?_
      refine r_aload_n dX0_append_30 (by first | rfl | assumption) ?_
      refine r_getf dX0_append_31 zf_X0_7 (by first | assumption | exact z_put_self) rfl ?_
      refine r_ic (2) dX0_append_34 rfl ?_
      refine r_aload_n dX0_append_35 (by first | rfl | assumption) ?_
      refine r_getf dX0_append_36 zf_X0_19 (by first | assumption | exact z_put_self) rfl ?_
      refine r_alen dX0_append_39 (by assumption) ?_
      refine r_imul dX0_append_40 ?_
      refine r_bp (16) dX0_append_41 rfl ?_
      refine r_iadd dX0_append_43 ?_
      have e2 : (2 : Int32) * Int32.ofNat cap + 16 = nI (2 * cap + 16) := by
        show nI 2 * nI cap + nI 16 = _
        rw [pk_mul, nI_add]
      refine r_mmin dX0_append_44 zo_X0_26 (by simp [Value.category]) ?_
      have e3 : (if (2 : Int32) * Int32.ofNat (cap, (Sum.inl g : (Nat → Int32) ⊕ (Nat → Int64) ⊕ (Nat → UInt32) ⊕ (Nat → UInt64) ⊕ (Nat → Option Nat))).1 + 16 < nI lim then (2 : Int32) * Int32.ofNat (cap, (Sum.inl g : (Nat → Int32) ⊕ (Nat → Int64) ⊕ (Nat → UInt32) ⊕ (Nat → UInt64) ⊕ (Nat → Option Nat))).1 + 16 else nI lim) = nI (cap1 lim cap) := by
        show (if (2 : Int32) * Int32.ofNat cap + 16 < nI lim then (2 : Int32) * Int32.ofNat cap + 16 else nI lim) = _
        rw [e2]
        unfold cap1
        by_cases q : lim < 2 * cap + 16
        · rw [if_pos q, if_neg (nI_nlt (by omega) (by omega))]
        · rw [if_neg q]
          by_cases q2 : 2 * cap + 16 < lim
          · rw [if_pos (nI_lt q2 (by omega))]
          · rw [if_neg (nI_nlt (by omega) (by omega))]
            congr 1
            omega
      rw [e3]
      have hcap1 : cap < cap1 lim cap ∧ cap1 lim cap ≤ 65536 := by unfold cap1; split <;> omega
      refine r_copyB dX0_append_47 zo_X0_29 hr hlt.2 ⟨hcap1.1, by omega⟩ (by simp [Value.category]) ?_
      have hb2 : (z_new S (.inl (.byte, cap1 lim cap, .inl (va_cpy g (fun _ => 0) 0 0 cap))) (cap1 lim cap)).2.2 b = .inr (1, [.int (nI lim), .ref r, .int (nI xs.length)]) := (va_up_ne _ _ (Nat.ne_of_lt hlt.1)).trans hb
      have hr2 : (z_new S (.inl (.byte, cap1 lim cap, .inl (va_cpy g (fun _ => 0) 0 0 cap))) (cap1 lim cap)).2.2 S.1 = .inl (.byte, cap1 lim cap, .inl (va_cpy g (fun _ => 0) 0 0 cap)) := va_up_self _ _ _
      have hf2 : fr S (z_new S (.inl (.byte, cap1 lim cap, .inl (va_cpy g (fun _ => 0) 0 0 cap))) (cap1 lim cap)) [b, r] := ⟨Nat.le_succ _, Nat.le_add_right _ _, fun j hj _ => va_up_ne _ _ (Nat.ne_of_lt hj)⟩
      have hz1 : (z_new S (.inl (.byte, cap1 lim cap, .inl (va_cpy g (fun _ => 0) 0 0 cap))) (cap1 lim cap)).1 = S.1 + 1 ∧ (z_new S (.inl (.byte, cap1 lim cap, .inl (va_cpy g (fun _ => 0) 0 0 cap))) (cap1 lim cap)).2.1 = S.2.1 + cap1 lim cap := ⟨rfl, rfl⟩
      generalize z_new S (.inl (.byte, cap1 lim cap, .inl (va_cpy g (fun _ => 0) 0 0 cap))) (cap1 lim cap) = S2 at hb2 hr2 hf2 hz1 ⊢
      refine r_putf dX0_append_50 zf_X0_19 (by first | assumption | exact z_put_self) (Nat.le_of_ble_eq_true rfl) ⟨rfl, rfl⟩ ?_
      exact K _ S.1 (cap1 lim cap) _ (va_up_self _ _ _) ((va_up_ne _ _ (Nat.ne_of_gt hlt.1)).trans hr2) (by omega) hcap1.2 (fun k hk => ⟨(hg k hk).1, by rw [pk_cpy_in (Nat.zero_le _) (by omega)]; simpa using (hg k hk).2⟩) (Nat.ne_of_lt hlt.1) ⟨hf2.1, hf2.2.1, fun j hj hm => (va_up_ne _ _ (fun e => hm (by rw [e]; simp))).trans (hf2.2.2 j hj hm)⟩ (Or.inr rfl) (Or.inr ⟨rfl, rfl, by omega, hz1.1, hz1.2⟩)
  · have hfull : xs.length = lim := by
      rcases Nat.lt_or_ge xs.length lim with q | q
      · exact absurd (nI_lt q (by omega)) c8
      · omega
    refine r_ic (0) dX0_append_11 rfl ?_
    refine r_ireturn dX0_append_12 _ rfl rfl (Or.inr ⟨hfull, rfl, rfl⟩)
