/-- a text from k on (behind its first quote): the place behind its last one -/
def txF (xs : List Nat) : Nat → Nat → Option Nat
  | 0, _ => none
  | n + 1, k => if ch xs k = 34 then some (k + 1) else match chB xs k 34 with
    | none => none
    | some q => txF xs n q.1
theorem txF_s {xs : List Nat} {n k : Nat} : txF xs (n + 1) k = if ch xs k = 34 then some (k + 1) else match chB xs k 34 with
    | none => none
    | some q => txF xs n q.1 := rfl
theorem ch_out {xs : List Nat} {k : Nat} (h : xs.length ≤ k) : ch xs k = -1 := if_neg (by omega)
theorem chB_lt {xs : List Nat} {k : Nat} {q : Int32} {j : Nat} {c : Int32} (h : chB xs k q = some (j, c)) : k < xs.length ∧ k < j ∧ j ≤ xs.length := by
  have hk : k < xs.length := by
    rcases Nat.lt_or_ge k xs.length with z | z
    · exact z
    · unfold chB at h
      rw [ch_out z, if_pos (Or.inl (by decide))] at h
      cases h
  unfold chB at h
  split at h
  · cases h
  · split at h
    · cases h; omega
    · split at h
      · cases h
      · next hp =>
        cases h
        rcases Nat.lt_or_ge (k + 1) xs.length with z | z
        · omega
        · rw [ch_out z] at hp
          exact absurd rfl hp
section
variable {d : Nat} {S : zS} {E : zE} {lB lI : List Nat} {B C t b k s e lim i : Nat} {stop : Int32} {val sec : Int64} {xs : List Nat}
set_option maxRecDepth 10000 in
set_option maxHeartbeats 1000000 in
theorem C_X6_takeCharacter (ht : S.2.2 t = .inr (7, tF b k s e stop val sec)) (hV : Vw S E lB lI B C) (hb : E.1 b = some (lim, xs)) (hi : i ≤ 65536) : Rc (d + 2) mX6_takeCharacter [.ref t, .int (nI i)] S (fun v S1 => ((∀ j c, chB xs (i + 1) 39 = some (j, c) → ch xs j ≠ 39 ∨ fNm (ch xs (j + 1)) = true) ∧ v = some (.int (-1)) ∧ ∃ val1, S1 = z_put S t (.inr (7, tF b k s e stop val1 sec))) ∨ ∃ j c, chB xs (i + 1) 39 = some (j, c) ∧ ch xs j = 39 ∧ fNm (ch xs (j + 1)) = false ∧ v = some (.int 2) ∧ S1 = z_put S t (.inr (7, tF b k s e (nI (j + 1)) c.toInt64 sec))) := by
  have hraw := hV.raw ht (by decide) (by decide)
  have hxl : xs.length ≤ 65536 := by
    have k := (hV.b hb).1
    exact Nat.le_trans k.2.2.2.1 k.2.2.2.2.2
  have hself : S = z_put S t (.inr (7, tF b k s e stop val sec)) := by
    unfold z_put
    have : va_up S.2.2 t (.inr (7, tF b k s e stop val sec)) = S.2.2 := by
      funext x
      unfold va_up
      split
      · next q => rw [q, ht]
      · rfl
    rw [this]
  refine Rc.of ?_
  refine r_aload_n dX6_takeCharacter_0 (by first | rfl | assumption) ?_
  refine r_iload_n dX6_takeCharacter_1 (by first | rfl | assumption) ?_
  refine r_ic (1) dX6_takeCharacter_2 rfl ?_
  refine r_iadd dX6_takeCharacter_3 ?_
  rw [nI_1]
  refine r_bp (39) dX6_takeCharacter_4 rfl ?_
  refine r_callV2 dX6_takeCharacter_6 zm_X6_99 (by assumption) rfl (Nat.le_of_ble_eq_true rfl) (Nat.le_of_ble_eq_true rfl) (C_X6_behindCharacter ht hV hb (show i + 1 < 2 ^ 20 by omega)) (fun v S1 hv => ?_)
  rcases hv with ⟨e0, rfl, rfl⟩ | ⟨j, c, e0, rfl, rfl⟩
  · refine r_istore_n dX6_takeCharacter_9 (by decide) (by first | exact z_c1_i (by first | rfl | assumption) | exact z_c1_r (by first | rfl | assumption) | exact z_c1_n (by first | rfl | assumption) | exact z_c1_c (by first | rfl | assumption) | exact z_c1_0 (by first | rfl | assumption)) ?_
    refine r_iload_n dX6_takeCharacter_10 (by first | rfl | assumption) ?_
    refine r_if_lt_t (tgt := 43) dX6_takeCharacter_11 (by decide) (by decide) ?_
    refine r_ic (-1) dX6_takeCharacter_43 rfl ?_
    refine r_ireturn dX6_takeCharacter_44 _ rfl rfl (Or.inl ⟨fun j c h => (by rw [e0] at h; cases h), rfl, val, hself⟩)
  · have hj := chB_lt e0
    have hV1 := hV.put (c := .inr (7, tF b k s e stop c.toInt64 sec)) hraw
    have ht1 : (z_put S t (.inr (7, tF b k s e stop c.toInt64 sec))).2.2 t = .inr (7, tF b k s e stop c.toInt64 sec) := va_up_self _ _ _
    have kb := (hV1.b hb).1
    have kb1 := kb.1
    have bad : (ch xs j ≠ 39 ∨ fNm (ch xs (j + 1)) = true) → ∀ j' c', chB xs (i + 1) 39 = some (j', c') → ch xs j' ≠ 39 ∨ fNm (ch xs (j' + 1)) = true := by
      intro h j' c' h'
      rw [e0] at h'
      cases h'
      exact h
    refine r_istore_n dX6_takeCharacter_9 (by decide) (by first | exact z_c1_i (by first | rfl | assumption) | exact z_c1_r (by first | rfl | assumption) | exact z_c1_n (by first | rfl | assumption) | exact z_c1_c (by first | rfl | assumption) | exact z_c1_0 (by first | rfl | assumption)) ?_
    refine r_iload_n dX6_takeCharacter_10 (by first | rfl | assumption) ?_
    refine r_if_lt_f (tgt := 43) dX6_takeCharacter_11 (by decide) (nI_pos (by omega)) ?_
    refine r_aload_n dX6_takeCharacter_14 (by first | rfl | assumption) ?_
    refine r_getf dX6_takeCharacter_15 zf_X6_24 (by assumption) rfl ?_
    refine r_iload_n dX6_takeCharacter_18 (by first | rfl | assumption) ?_
    refine r_callV1 dX6_takeCharacter_19 zm_X6_49 (by assumption) rfl (Nat.le_of_ble_eq_true rfl) (Nat.le_of_ble_eq_true rfl) (C_X0_at kb) (fun v S9 hv => ?_)
    obtain ⟨hS9, rfl⟩ := hv
    subst hS9
    rw [bAt_ch (by omega) (by omega)]
    refine r_bp (39) dX6_takeCharacter_22 rfl ?_
    refine r_icmp_ne (tgt := 43) dX6_takeCharacter_24 (by decide) (fun c24 => ?_) (fun c24 => ?_)
    · refine r_ic (-1) dX6_takeCharacter_43 rfl ?_
      refine r_ireturn dX6_takeCharacter_44 _ rfl rfl (Or.inl ⟨bad (Or.inl c24), rfl, _, rfl⟩)
    · refine r_aload_n dX6_takeCharacter_27 (by first | rfl | assumption) ?_
      refine r_getf dX6_takeCharacter_28 zf_X6_24 (by assumption) rfl ?_
      refine r_iload_n dX6_takeCharacter_31 (by first | rfl | assumption) ?_
      refine r_ic (1) dX6_takeCharacter_32 rfl ?_
      refine r_iadd dX6_takeCharacter_33 ?_
      rw [nI_1]
      refine r_callV1 dX6_takeCharacter_34 zm_X6_49 (by assumption) rfl (Nat.le_of_ble_eq_true rfl) (Nat.le_of_ble_eq_true rfl) (C_X0_at kb) (fun v S9 hv => ?_)
      obtain ⟨hS9, rfl⟩ := hv
      subst hS9
      rw [bAt_ch (by omega) (by omega)]
      refine r_callSN1 dX6_takeCharacter_37 zm_X6_71 (Nat.le_of_ble_eq_true rfl) (Nat.le_of_ble_eq_true rfl) (C_X7_isNameByte) (fun v S9 hv => ?_)
      obtain ⟨hS9, rfl⟩ := hv
      subst hS9
      refine r_if_eq (tgt := 45) dX6_takeCharacter_40 (by decide) (fun c40 => ?_) (fun c40 => ?_)
      · rw [bI_0] at c40
        refine r_aload_n dX6_takeCharacter_45 (by first | rfl | assumption) ?_
        refine r_iload_n dX6_takeCharacter_46 (by first | rfl | assumption) ?_
        refine r_ic (1) dX6_takeCharacter_47 rfl ?_
        refine r_iadd dX6_takeCharacter_48 ?_
        rw [nI_1]
        refine r_putf dX6_takeCharacter_49 zf_X6_60 (by assumption) (Nat.le_of_ble_eq_true rfl) ⟨rfl, rfl⟩ ?_
        refine r_ic (2) dX6_takeCharacter_52 rfl ?_
        refine r_ireturn dX6_takeCharacter_53 _ rfl rfl (Or.inr ⟨j, c, e0, c24, c40, rfl, z_put_put⟩)
      · rw [bI_0, Bool.not_eq_false] at c40
        refine r_ic (-1) dX6_takeCharacter_43 rfl ?_
        refine r_ireturn dX6_takeCharacter_44 _ rfl rfl (Or.inl ⟨bad (Or.inr c40), rfl, _, rfl⟩)
set_option maxRecDepth 10000 in
set_option maxHeartbeats 1000000 in
theorem C_X6_takeText (ht : S.2.2 t = .inr (7, tF b k s e stop val sec)) (hV : Vw S E lB lI B C) (hb : E.1 b = some (lim, xs)) (hi : i ≤ 65536) : Rc (d + 2) mX6_takeText [.ref t, .int (nI i)] S (fun v S1 => (txF xs xs.length (i + 1) = none ∧ v = some (.int (-1)) ∧ ∃ val1, S1 = z_put S t (.inr (7, tF b k s e stop val1 sec))) ∨ ∃ j val1, txF xs xs.length (i + 1) = some j ∧ v = some (.int 3) ∧ S1 = z_put S t (.inr (7, tF b k s e (nI j) val1 sec))) := by
  have hraw := hV.raw ht (by decide) (by decide)
  have hxl : xs.length ≤ 65536 := by
    have k := (hV.b hb).1
    exact Nat.le_trans k.2.2.2.1 k.2.2.2.2.2
  have hself : S = z_put S t (.inr (7, tF b k s e stop val sec)) := by
    unfold z_put
    have : va_up S.2.2 t (.inr (7, tF b k s e stop val sec)) = S.2.2 := by
      funext x
      unfold va_up
      split
      · next q => rw [q, ht]
      · rfl
    rw [this]
  refine Rc.of ?_
  have loop : ∀ (n turn j : Nat) (val1 : Int64) (L : Nat → Option Value), n + turn = xs.length → j ≤ 65537 → txF xs n j = txF xs xs.length (i + 1) → L 0 = some (.ref t) → L 1 = some (.int (nI i)) → L 2 = some (.int (nI j)) → L 3 = some (.int (nI turn)) → Ru (d + 2) mX6_takeText 6 L [] (z_put S t (.inr (7, tF b k s e stop val1 sec))) (z_en mX6_takeText (fun v S1 => (txF xs xs.length (i + 1) = none ∧ v = some (.int (-1)) ∧ ∃ val1, S1 = z_put S t (.inr (7, tF b k s e stop val1 sec))) ∨ ∃ j val1, txF xs xs.length (i + 1) = some j ∧ v = some (.int 3) ∧ S1 = z_put S t (.inr (7, tF b k s e (nI j) val1 sec)))) := by
    intro n
    induction n with
    | zero =>
      intro turn j val1 L hn hj hs l0 l1 l2 l3
      have hV1 := hV.put (c := .inr (7, tF b k s e stop val1 sec)) hraw
      have ht1 : (z_put S t (.inr (7, tF b k s e stop val1 sec))).2.2 t = .inr (7, tF b k s e stop val1 sec) := va_up_self _ _ _
      have kb := (hV1.b hb).1
      have kb1 := kb.1
      refine r_iload_n dX6_takeText_6 (by first | rfl | assumption) ?_
      refine r_aload_n dX6_takeText_7 (by first | rfl | assumption) ?_
      refine r_getf dX6_takeText_8 zf_X6_24 (by assumption) rfl ?_
      refine r_callV0 dX6_takeText_11 zm_X6_48 (by assumption) rfl (Nat.le_of_ble_eq_true rfl) (Nat.le_of_ble_eq_true rfl) (C_X0_size kb) (fun v S9 hv => ?_)
      obtain ⟨hS9, rfl⟩ := hv
      subst hS9
      refine r_icmp_ge_t (tgt := 59) dX6_takeText_14 (by decide) (nI_le (show xs.length ≤ turn by omega) (by omega)) ?_
      refine r_ic (-1) dX6_takeText_59 rfl ?_
      refine r_ireturn dX6_takeText_60 _ rfl rfl (Or.inl ⟨by rw [← hs]; rfl, rfl, _, rfl⟩)
    | succ n ih =>
      intro turn j val1 L hn hj hs l0 l1 l2 l3
      have hV1 := hV.put (c := .inr (7, tF b k s e stop val1 sec)) hraw
      have ht1 : (z_put S t (.inr (7, tF b k s e stop val1 sec))).2.2 t = .inr (7, tF b k s e stop val1 sec) := va_up_self _ _ _
      have kb := (hV1.b hb).1
      have kb1 := kb.1
      refine r_iload_n dX6_takeText_6 (by first | rfl | assumption) ?_
      refine r_aload_n dX6_takeText_7 (by first | rfl | assumption) ?_
      refine r_getf dX6_takeText_8 zf_X6_24 (by assumption) rfl ?_
      refine r_callV0 dX6_takeText_11 zm_X6_48 (by assumption) rfl (Nat.le_of_ble_eq_true rfl) (Nat.le_of_ble_eq_true rfl) (C_X0_size kb) (fun v S9 hv => ?_)
      obtain ⟨hS9, rfl⟩ := hv
      subst hS9
      refine r_icmp_ge_f (tgt := 59) dX6_takeText_14 (by decide) (nI_ge (show turn < xs.length by omega) (by omega)) ?_
      refine r_aload_n dX6_takeText_17 (by first | rfl | assumption) ?_
      refine r_getf dX6_takeText_18 zf_X6_24 (by assumption) rfl ?_
      refine r_iload_n dX6_takeText_21 (by first | rfl | assumption) ?_
      refine r_callV1 dX6_takeText_22 zm_X6_49 (by assumption) rfl (Nat.le_of_ble_eq_true rfl) (Nat.le_of_ble_eq_true rfl) (C_X0_at kb) (fun v S9 hv => ?_)
      obtain ⟨hS9, rfl⟩ := hv
      subst hS9
      rw [bAt_ch (by omega) (by omega)]
      rw [txF_s] at hs
      refine r_bp (34) dX6_takeText_25 rfl ?_
      refine r_icmp_ne (tgt := 39) dX6_takeText_27 (by decide) (fun c27 => ?_) (fun c27 => ?_)
      · rw [if_neg c27] at hs
        refine r_aload_n dX6_takeText_39 (by first | rfl | assumption) ?_
        refine r_iload_n dX6_takeText_40 (by first | rfl | assumption) ?_
        refine r_bp (34) dX6_takeText_41 rfl ?_
        refine r_callV2 dX6_takeText_43 zm_X6_99 (by assumption) rfl (Nat.le_of_ble_eq_true rfl) (Nat.le_of_ble_eq_true rfl) (C_X6_behindCharacter ht1 hV1 hb (show j < 2 ^ 20 by omega)) (fun v S9 hv => ?_)
        rcases hv with ⟨e0, rfl, rfl⟩ | ⟨j2, c, e0, rfl, rfl⟩
        · rw [e0] at hs
          refine r_istore_n dX6_takeText_46 (by decide) (by first | exact z_c1_i (by first | rfl | assumption) | exact z_c1_r (by first | rfl | assumption) | exact z_c1_n (by first | rfl | assumption) | exact z_c1_c (by first | rfl | assumption) | exact z_c1_0 (by first | rfl | assumption)) ?_
          refine r_iload_n dX6_takeText_47 (by first | rfl | assumption) ?_
          refine r_if_ge_f (tgt := 53) dX6_takeText_48 (by decide) (by decide) ?_
          refine r_ic (-1) dX6_takeText_51 rfl ?_
          refine r_ireturn dX6_takeText_52 _ rfl rfl (Or.inl ⟨by rw [← hs], rfl, _, rfl⟩)
        · rw [e0] at hs
          have hj2 := chB_lt e0
          rw [z_put_put]
          refine r_istore_n dX6_takeText_46 (by decide) (by first | exact z_c1_i (by first | rfl | assumption) | exact z_c1_r (by first | rfl | assumption) | exact z_c1_n (by first | rfl | assumption) | exact z_c1_c (by first | rfl | assumption) | exact z_c1_0 (by first | rfl | assumption)) ?_
          refine r_iload_n dX6_takeText_47 (by first | rfl | assumption) ?_
          refine r_if_ge_t (tgt := 53) dX6_takeText_48 (by decide) (nI_pos' (by omega)) ?_
          refine r_inc (nI (turn + 1)) dX6_takeText_53 (by first | rfl | assumption) (by decide) (by first | exact z_c1_i (by first | rfl | assumption) | exact z_c1_r (by first | rfl | assumption) | exact z_c1_n (by first | rfl | assumption) | exact z_c1_c (by first | rfl | assumption) | exact z_c1_0 (by first | rfl | assumption)) (nI_1 turn) ?_
          refine r_goto (tgt := 6) dX6_takeText_56 (by decide) ?_
          exact ih (turn + 1) j2 c.toInt64 _ (by omega) (by omega) hs l0 l1 rfl rfl
      · rw [if_pos c27] at hs
        refine r_aload_n dX6_takeText_30 (by first | rfl | assumption) ?_
        refine r_iload_n dX6_takeText_31 (by first | rfl | assumption) ?_
        refine r_ic (1) dX6_takeText_32 rfl ?_
        refine r_iadd dX6_takeText_33 ?_
        rw [nI_1]
        refine r_putf dX6_takeText_34 zf_X6_60 (by assumption) (Nat.le_of_ble_eq_true rfl) ⟨rfl, rfl⟩ ?_
        refine r_ic (3) dX6_takeText_37 rfl ?_
        refine r_ireturn dX6_takeText_38 _ rfl rfl (Or.inr ⟨j + 1, val1, by rw [← hs], rfl, z_put_put⟩)
  refine r_iload_n dX6_takeText_0 (by first | rfl | assumption) ?_
  refine r_ic (1) dX6_takeText_1 rfl ?_
  refine r_iadd dX6_takeText_2 ?_
  rw [nI_1]
  refine r_istore_n dX6_takeText_3 (by decide) (by first | exact z_c1_i (by first | rfl | assumption) | exact z_c1_r (by first | rfl | assumption) | exact z_c1_n (by first | rfl | assumption) | exact z_c1_c (by first | rfl | assumption) | exact z_c1_0 (by first | rfl | assumption)) ?_
  refine r_ic (0) dX6_takeText_4 rfl ?_
  refine r_istore_n dX6_takeText_5 (by decide) (by first | exact z_c1_i (by first | rfl | assumption) | exact z_c1_r (by first | rfl | assumption) | exact z_c1_n (by first | rfl | assumption) | exact z_c1_c (by first | rfl | assumption) | exact z_c1_0 (by first | rfl | assumption)) ?_
  have h0 := loop xs.length 0 (i + 1) val (z_s1 (z_s1 (z_lf (lv_args 0 [.ref t, .int (nI i)])) 2 (Value.int (nI (i + 1)))) 3 (Value.int 0)) (by omega) (by omega) rfl rfl rfl rfl rfl
  rw [← hself] at h0
  exact h0
end
