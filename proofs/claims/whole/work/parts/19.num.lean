/-- room for a digit more, as the class asks -/
def lsh (v : Int64) (n : Int32) : Int64 := (v.toUInt64 >>> (n.toInt64.toUInt64 &&& Int64.toUInt64 63)).toInt64
def hrm (b : Int32) (v : Int64) (dg : Int32) : Bool := if b = 16 then decide (lg_cmp (lsh v 60) 0 = 0) else if b = 2 then decide (lg_cmp (lsh v 63) 0 = 0) else !decide (lg_cmp v 0 < 0) && (decide (lg_cmp v 1844674407370955161 < 0) || (decide (lg_cmp v 1844674407370955161 = 0) && !decide (5 < dg)))
section
variable {d : Nat} {S : zS} {E : zE} {lB lI : List Nat} {B C t b k s e lim i : Nat} {stop : Int32} {val sec : Int64} {xs : List Nat}
set_option maxRecDepth 10000 in
theorem C_X6_hasRoom {bs dg : Int32} (ht : S.2.2 t = .inr (7, tF b k s e stop val sec)) : Rc d mX6_hasRoom [.ref t, .int bs, .int dg] S (fun v S1 => S1 = S ∧ v = some (.int (bI (hrm bs val dg)))) := by
  refine Rc.of ?_
  refine r_iload_n dX6_hasRoom_0 (by first | rfl | assumption) ?_
  refine r_bp (16) dX6_hasRoom_1 rfl ?_
  refine r_icmp_ne (tgt := 24) dX6_hasRoom_3 (by decide) (fun c3 => ?_) (fun c3 => ?_)
  · refine r_iload_n dX6_hasRoom_24 (by first | rfl | assumption) ?_
    refine r_ic (2) dX6_hasRoom_25 rfl ?_
    refine r_icmp_ne (tgt := 47) dX6_hasRoom_26 (by decide) (fun c26 => ?_) (fun c26 => ?_)
    · refine r_ldc2 dX6_hasRoom_47 zk_X6_97 ?_
      refine r_lstore_n dX6_hasRoom_50 (by decide) (by first | exact z_c1_i (by first | rfl | assumption) | exact z_c1_r (by first | rfl | assumption) | exact z_c1_n (by first | rfl | assumption) | exact z_c1_c (by first | rfl | assumption) | exact z_c1_0 (by first | rfl | assumption)) ?_
      refine r_aload_n dX6_hasRoom_51 (by first | rfl | assumption) ?_
      refine r_getf dX6_hasRoom_52 zf_X6_53 (by assumption) rfl ?_
      refine r_lc (0) dX6_hasRoom_55 rfl ?_
      refine r_lcmp dX6_hasRoom_56 ?_
      refine r_if_lt (tgt := 87) dX6_hasRoom_57 (by decide) (fun c57 => ?_) (fun c57 => ?_)
      · refine r_ic (0) dX6_hasRoom_87 rfl ?_
        refine r_ireturn dX6_hasRoom_88 _ rfl rfl ⟨rfl, by simp_all [hrm, bI, lsh]⟩
      · refine r_aload_n dX6_hasRoom_60 (by first | rfl | assumption) ?_
        refine r_getf dX6_hasRoom_61 zf_X6_53 (by assumption) rfl ?_
        refine r_lload_n dX6_hasRoom_64 (by first | rfl | assumption) ?_
        refine r_lcmp dX6_hasRoom_65 ?_
        refine r_if_lt (tgt := 83) dX6_hasRoom_66 (by decide) (fun c66 => ?_) (fun c66 => ?_)
        · refine r_ic (1) dX6_hasRoom_83 rfl ?_
          refine r_goto (tgt := 88) dX6_hasRoom_84 (by decide) ?_
          refine r_ireturn dX6_hasRoom_88 _ rfl rfl ⟨rfl, by simp_all [hrm, bI, lsh]⟩
        · refine r_aload_n dX6_hasRoom_69 (by first | rfl | assumption) ?_
          refine r_getf dX6_hasRoom_70 zf_X6_53 (by assumption) rfl ?_
          refine r_lload_n dX6_hasRoom_73 (by first | rfl | assumption) ?_
          refine r_lcmp dX6_hasRoom_74 ?_
          refine r_if_ne (tgt := 87) dX6_hasRoom_75 (by decide) (fun c75 => ?_) (fun c75 => ?_)
          · refine r_ic (0) dX6_hasRoom_87 rfl ?_
            refine r_ireturn dX6_hasRoom_88 _ rfl rfl ⟨rfl, by simp_all [hrm, bI, lsh]⟩
          · refine r_iload_n dX6_hasRoom_78 (by first | rfl | assumption) ?_
            refine r_ic (5) dX6_hasRoom_79 rfl ?_
            refine r_icmp_gt (tgt := 87) dX6_hasRoom_80 (by decide) (fun c80 => ?_) (fun c80 => ?_)
            · refine r_ic (0) dX6_hasRoom_87 rfl ?_
              refine r_ireturn dX6_hasRoom_88 _ rfl rfl ⟨rfl, by simp_all [hrm, bI, lsh]⟩
            · refine r_ic (1) dX6_hasRoom_83 rfl ?_
              refine r_goto (tgt := 88) dX6_hasRoom_84 (by decide) ?_
              refine r_ireturn dX6_hasRoom_88 _ rfl rfl ⟨rfl, by simp_all [hrm, bI, lsh]⟩
    · refine r_aload_n dX6_hasRoom_29 (by first | rfl | assumption) ?_
      refine r_getf dX6_hasRoom_30 zf_X6_53 (by assumption) rfl ?_
      refine r_bp (63) dX6_hasRoom_33 rfl ?_
      refine r_lushr dX6_hasRoom_35 ?_
      refine r_lc (0) dX6_hasRoom_36 rfl ?_
      refine r_lcmp dX6_hasRoom_37 ?_
      refine r_if_ne (tgt := 45) dX6_hasRoom_38 (by decide) (fun c38 => ?_) (fun c38 => ?_)
      · refine r_ic (0) dX6_hasRoom_45 rfl ?_
        refine r_ireturn dX6_hasRoom_46 _ rfl rfl ⟨rfl, by simp_all [hrm, bI, lsh]⟩
      · refine r_ic (1) dX6_hasRoom_41 rfl ?_
        refine r_goto (tgt := 46) dX6_hasRoom_42 (by decide) ?_
        refine r_ireturn dX6_hasRoom_46 _ rfl rfl ⟨rfl, by simp_all [hrm, bI, lsh]⟩
  · refine r_aload_n dX6_hasRoom_6 (by first | rfl | assumption) ?_
    refine r_getf dX6_hasRoom_7 zf_X6_53 (by assumption) rfl ?_
    refine r_bp (60) dX6_hasRoom_10 rfl ?_
    refine r_lushr dX6_hasRoom_12 ?_
    refine r_lc (0) dX6_hasRoom_13 rfl ?_
    refine r_lcmp dX6_hasRoom_14 ?_
    refine r_if_ne (tgt := 22) dX6_hasRoom_15 (by decide) (fun c15 => ?_) (fun c15 => ?_)
    · refine r_ic (0) dX6_hasRoom_22 rfl ?_
      refine r_ireturn dX6_hasRoom_23 _ rfl rfl ⟨rfl, by simp_all [hrm, bI, lsh]⟩
    · refine r_ic (1) dX6_hasRoom_18 rfl ?_
      refine r_goto (tgt := 23) dX6_hasRoom_19 (by decide) ?_
      refine r_ireturn dX6_hasRoom_23 _ rfl rfl ⟨rfl, by simp_all [hrm, bI, lsh]⟩
set_option maxRecDepth 10000 in
theorem t_self (ht : S.2.2 t = .inr (7, tF b k s e stop val sec)) : S = z_put S t (.inr (7, tF b k s e stop val sec)) := by
  unfold z_put
  have : va_up S.2.2 t (.inr (7, tF b k s e stop val sec)) = S.2.2 := by
    funext x
    unfold va_up
    split
    · next q => rw [q, ht]
    · rfl
  rw [this]
end
def bsN (xs : List Nat) (i : Nat) : Int32 := if ch xs i = 48 then (if ch xs (i + 1) = 120 then 16 else if ch xs (i + 1) = 98 then 2 else 10) else 10
def fsN (xs : List Nat) (i : Nat) : Nat := if bsN xs i = 10 then i else i + 2
theorem bsN_3 (xs : List Nat) (i : Nat) : bsN xs i = 2 ∨ bsN xs i = 10 ∨ bsN xs i = 16 := by
  unfold bsN
  split
  · split
    · exact Or.inr (Or.inr rfl)
    · split
      · exact Or.inl rfl
      · exact Or.inr (Or.inl rfl)
  · exact Or.inr (Or.inl rfl)
def dgt (bs : Int32) (x : Int32) : Int32 := if fHx x < bs then fHx x else -1
/-- the digits from k on: where they end, their value, whether it fitted -/
def nuL (xs : List Nat) (bs : Int32) : Nat → Nat → Int64 → Bool → Nat × Int64 × Bool
  | 0, k, v, f => (k, v, f)
  | n + 1, k, v, f => if dgt bs (ch xs k) < 0 then (k, v, f) else nuL xs bs n (k + 1) (v * bs.toInt64 + (dgt bs (ch xs k)).toInt64) (f && hrm bs v (dgt bs (ch xs k)))
def num (xs : List Nat) (i : Nat) : Nat × Int64 × Bool := nuL xs (bsN xs i) (xs.length - fsN xs i) (fsN xs i) 0 true
theorem nuL_s {xs : List Nat} {bs : Int32} {n k : Nat} {v : Int64} {f : Bool} : nuL xs bs (n + 1) k v f = if dgt bs (ch xs k) < 0 then (k, v, f) else nuL xs bs n (k + 1) (v * bs.toInt64 + (dgt bs (ch xs k)).toInt64) (f && hrm bs v (dgt bs (ch xs k))) := rfl
def numOk (xs : List Nat) (i : Nat) : Bool := (num xs i).2.2 && (decide (fsN xs i < (num xs i).1) && !fNm (ch xs (num xs i).1))
section
variable {d : Nat} {S : zS} {E : zE} {lB lI : List Nat} {B C t b k s e lim i : Nat} {stop : Int32} {val sec : Int64} {xs : List Nat}
set_option maxRecDepth 10000 in
set_option maxHeartbeats 2000000 in
theorem C_X6_takeNumber (ht : S.2.2 t = .inr (7, tF b k s e stop val sec)) (hV : Vw S E lB lI B C) (hb : E.1 b = some (lim, xs)) (hi : i ≤ 65536) : Rc (d + 2) mX6_takeNumber [.ref t, .int (nI i)] S (fun v S1 => v = some (.int (if numOk xs i then 2 else -1)) ∧ S1 = z_put S t (.inr (7, tF b k s e (nI (num xs i).1) (num xs i).2.1 sec))) := by
  have hraw := hV.raw ht (by decide) (by decide)
  have hxl : xs.length ≤ 65536 := by
    have k := (hV.b hb).1
    exact Nat.le_trans k.2.2.2.1 k.2.2.2.2.2
  have hb3 := bsN_3 xs i
  refine Rc.of ?_
  have fin : ∀ (L : Nat → Option Value), L 0 = some (.ref t) → L 3 = some (.int (nI (fsN xs i))) → L 4 = some (.int (bI (num xs i).2.2)) → (num xs i).1 ≤ 65538 → Ru (d + 2) mX6_takeNumber 156 L [] (z_put S t (.inr (7, tF b k s e (nI (num xs i).1) (num xs i).2.1 sec))) (z_en mX6_takeNumber (fun v S1 => v = some (.int (if numOk xs i then 2 else -1)) ∧ S1 = z_put S t (.inr (7, tF b k s e (nI (num xs i).1) (num xs i).2.1 sec)))) := by
    intro L l0 l3 l4 hk2
    have hf9 : fsN xs i ≤ 65538 := by unfold fsN; split <;> omega
    have hV1 := hV.put (c := .inr (7, tF b k s e (nI (num xs i).1) (num xs i).2.1 sec)) hraw
    have ht1 : (z_put S t (.inr (7, tF b k s e (nI (num xs i).1) (num xs i).2.1 sec))).2.2 t = .inr (7, tF b k s e (nI (num xs i).1) (num xs i).2.1 sec) := va_up_self _ _ _
    generalize z_put S t (.inr (7, tF b k s e (nI (num xs i).1) (num xs i).2.1 sec)) = S1 at hV1 ht1 ⊢
    have kb := (hV1.b hb).1
    have kb1 := kb.1
    have bad : numOk xs i = false → Ru (d + 2) mX6_takeNumber 190 L [] S1 (z_en mX6_takeNumber (fun v S2 => v = some (.int (if numOk xs i then 2 else -1)) ∧ S2 = S1)) := by
      intro h
      refine r_ic (-1) dX6_takeNumber_190 rfl ?_
      refine r_ireturn dX6_takeNumber_191 _ rfl rfl ⟨by rw [h]; rfl, rfl⟩
    refine r_iload dX6_takeNumber_156 (by first | rfl | assumption) ?_
    by_cases q1 : (num xs i).2.2 = true
    · refine r_if_eq_f (tgt := 190) dX6_takeNumber_158 (by decide) (by rw [q1]; decide) ?_
      refine r_aload_n dX6_takeNumber_161 (by first | rfl | assumption) ?_
      refine r_getf dX6_takeNumber_162 zf_X6_60 (by assumption) rfl ?_
      refine r_iload_n dX6_takeNumber_165 (by first | rfl | assumption) ?_
      by_cases q2 : fsN xs i < (num xs i).1
      · refine r_icmp_le_f (tgt := 190) dX6_takeNumber_166 (by decide) (nI_ge q2 (by omega)) ?_
        refine r_aload_n dX6_takeNumber_169 (by first | rfl | assumption) ?_
        refine r_getf dX6_takeNumber_170 zf_X6_24 (by assumption) rfl ?_
        refine r_aload_n dX6_takeNumber_173 (by first | rfl | assumption) ?_
        refine r_getf dX6_takeNumber_174 zf_X6_60 (by assumption) rfl ?_
        refine r_callV1 dX6_takeNumber_177 zm_X6_49 (by assumption) rfl (Nat.le_of_ble_eq_true rfl) (Nat.le_of_ble_eq_true rfl) (C_X0_at kb) (fun v S9 hv => ?_)
        obtain ⟨hS9, rfl⟩ := hv
        subst hS9
        rw [bAt_ch (by omega) (by omega)]
        refine r_callSN1 dX6_takeNumber_180 zm_X6_71 (Nat.le_of_ble_eq_true rfl) (Nat.le_of_ble_eq_true rfl) (C_X7_isNameByte) (fun v S9 hv => ?_)
        obtain ⟨hS9, rfl⟩ := hv
        subst hS9
        refine r_if_ne (tgt := 190) dX6_takeNumber_183 (by decide) (fun c183 => ?_) (fun c183 => ?_)
        · rw [bI_0, Bool.not_eq_false] at c183
          exact bad (by unfold numOk; rw [c183]; simp)
        · rw [bI_0] at c183
          refine r_ic (2) dX6_takeNumber_186 rfl ?_
          refine r_goto (tgt := 191) dX6_takeNumber_187 (by decide) ?_
          refine r_ireturn dX6_takeNumber_191 _ rfl rfl ⟨?_, rfl⟩
          have : numOk xs i = true := by unfold numOk; rw [q1, decide_eq_true q2, c183]; rfl
          rw [this]
          rfl
      · refine r_icmp_le_t (tgt := 190) dX6_takeNumber_166 (by decide) (nI_le (show (num xs i).1 ≤ fsN xs i by omega) (by omega)) ?_
        exact bad (by unfold numOk; rw [decide_eq_false q2]; simp)
    · refine r_if_eq_t (tgt := 190) dX6_takeNumber_158 (by decide) (by rw [Bool.eq_false_iff.mpr q1]; rfl) ?_
      exact bad (by unfold numOk; rw [Bool.eq_false_iff.mpr q1]; rfl)
  have loop : ∀ (n kk : Nat) (v : Int64) (f : Bool) (L : Nat → Option Value), xs.length - kk = n → kk ≤ 65538 → nuL xs (bsN xs i) n kk v f = num xs i → L 0 = some (.ref t) → L 1 = some (.int (nI i)) → L 2 = some (.int (bsN xs i)) → L 3 = some (.int (nI (fsN xs i))) → L 4 = some (.int (bI f)) → Ru (d + 2) mX6_takeNumber 57 L [] (z_put S t (.inr (7, tF b k s e (nI kk) v sec))) (z_en mX6_takeNumber (fun v S1 => v = some (.int (if numOk xs i then 2 else -1)) ∧ S1 = z_put S t (.inr (7, tF b k s e (nI (num xs i).1) (num xs i).2.1 sec)))) := by
    intro n
    induction n with
    | zero =>
      intro kk v f L hn hk hs l0 l1 l2 l3 l4
      have hs : (kk, v, f) = num xs i := hs
      have hV1 := hV.put (c := .inr (7, tF b k s e (nI kk) v sec)) hraw
      have ht1 : (z_put S t (.inr (7, tF b k s e (nI kk) v sec))).2.2 t = .inr (7, tF b k s e (nI kk) v sec) := va_up_self _ _ _
      have kb := (hV1.b hb).1
      have kb1 := kb.1
      refine r_aload_n dX6_takeNumber_57 (by first | rfl | assumption) ?_
      refine r_getf dX6_takeNumber_58 zf_X6_60 (by assumption) rfl ?_
      refine r_aload_n dX6_takeNumber_61 (by first | rfl | assumption) ?_
      refine r_getf dX6_takeNumber_62 zf_X6_24 (by assumption) rfl ?_
      refine r_callV0 dX6_takeNumber_65 zm_X6_48 (by assumption) rfl (Nat.le_of_ble_eq_true rfl) (Nat.le_of_ble_eq_true rfl) (C_X0_size kb) (fun v9 S9 hv => ?_)
      obtain ⟨hS9, rfl⟩ := hv
      subst hS9
      refine r_icmp_ge_t (tgt := 156) dX6_takeNumber_68 (by decide) (nI_le (show xs.length ≤ kk by omega) (by omega)) ?_
      rw [← hs] at fin
      have := fin L l0 l3 l4 hk
      rw [hs] at this
      rw [← hs]
      rw [← hs] at this
      exact this
    | succ n ih =>
      intro kk v f L hn hk hs l0 l1 l2 l3 l4
      have hV1 := hV.put (c := .inr (7, tF b k s e (nI kk) v sec)) hraw
      have ht1 : (z_put S t (.inr (7, tF b k s e (nI kk) v sec))).2.2 t = .inr (7, tF b k s e (nI kk) v sec) := va_up_self _ _ _
      have kb := (hV1.b hb).1
      have kb1 := kb.1
      rw [nuL_s] at hs
      refine r_aload_n dX6_takeNumber_57 (by first | rfl | assumption) ?_
      refine r_getf dX6_takeNumber_58 zf_X6_60 (by assumption) rfl ?_
      refine r_aload_n dX6_takeNumber_61 (by first | rfl | assumption) ?_
      refine r_getf dX6_takeNumber_62 zf_X6_24 (by assumption) rfl ?_
      refine r_callV0 dX6_takeNumber_65 zm_X6_48 (by assumption) rfl (Nat.le_of_ble_eq_true rfl) (Nat.le_of_ble_eq_true rfl) (C_X0_size kb) (fun v9 S9 hv => ?_)
      obtain ⟨hS9, rfl⟩ := hv
      subst hS9
      refine r_icmp_ge_f (tgt := 156) dX6_takeNumber_68 (by decide) (nI_ge (show kk < xs.length by omega) (by omega)) ?_
      refine r_iload_n dX6_takeNumber_71 (by first | rfl | assumption) ?_
      refine r_aload_n dX6_takeNumber_72 (by first | rfl | assumption) ?_
      refine r_getf dX6_takeNumber_73 zf_X6_24 (by assumption) rfl ?_
      refine r_aload_n dX6_takeNumber_76 (by first | rfl | assumption) ?_
      refine r_getf dX6_takeNumber_77 zf_X6_60 (by assumption) rfl ?_
      refine r_callV1 dX6_takeNumber_80 zm_X6_49 (by assumption) rfl (Nat.le_of_ble_eq_true rfl) (Nat.le_of_ble_eq_true rfl) (C_X0_at kb) (fun v9 S9 hv => ?_)
      obtain ⟨hS9, rfl⟩ := hv
      subst hS9
      rw [bAt_ch (by omega) (by omega)]
      refine r_callSN2 dX6_takeNumber_83 zm_X6_90 (Nat.le_of_ble_eq_true rfl) (Nat.le_of_ble_eq_true rfl) (C_X7_digitIn hb3) (fun v9 S9 hv => ?_)
      obtain ⟨hS9, rfl⟩ := hv
      subst hS9
      by_cases q : dgt (bsN xs i) (ch xs kk) < 0
      · rw [if_pos q] at hs
        refine r_if_lt_t (tgt := 156) dX6_takeNumber_86 (by decide) (q) ?_
        rw [← hs] at fin
        have := fin L l0 l3 l4 hk
        rw [← hs]
        exact this
      · rw [if_neg q] at hs
        refine r_if_lt_f (tgt := 156) dX6_takeNumber_86 (by decide) (q) ?_
        refine r_iload_n dX6_takeNumber_89 (by first | rfl | assumption) ?_
        refine r_aload_n dX6_takeNumber_90 (by first | rfl | assumption) ?_
        refine r_getf dX6_takeNumber_91 zf_X6_24 (by assumption) rfl ?_
        refine r_aload_n dX6_takeNumber_94 (by first | rfl | assumption) ?_
        refine r_getf dX6_takeNumber_95 zf_X6_60 (by assumption) rfl ?_
        refine r_callV1 dX6_takeNumber_98 zm_X6_49 (by assumption) rfl (Nat.le_of_ble_eq_true rfl) (Nat.le_of_ble_eq_true rfl) (C_X0_at kb) (fun v9 S9 hv => ?_)
        obtain ⟨hS9, rfl⟩ := hv
        subst hS9
        rw [bAt_ch (by omega) (by omega)]
        refine r_callSN2 dX6_takeNumber_101 zm_X6_90 (Nat.le_of_ble_eq_true rfl) (Nat.le_of_ble_eq_true rfl) (C_X7_digitIn hb3) (fun v9 S9 hv => ?_)
        obtain ⟨hS9, rfl⟩ := hv
        subst hS9
        refine r_istore dX6_takeNumber_104 (by decide) (by first | exact z_c1_i (by first | rfl | assumption) | exact z_c1_r (by first | rfl | assumption) | exact z_c1_n (by first | rfl | assumption) | exact z_c1_c (by first | rfl | assumption) | exact z_c1_0 (by first | rfl | assumption)) ?_
        refine r_iload dX6_takeNumber_106 (by first | rfl | assumption) ?_
        generalize hL9 : z_s1 L 5 (Value.int (if fHx (ch xs kk) < bsN xs i then fHx (ch xs kk) else -1)) = L9
        have m0 : L9 0 = some (.ref t) := by rw [← hL9]; exact l0
        have m1 : L9 1 = some (.int (nI i)) := by rw [← hL9]; exact l1
        have m2 : L9 2 = some (.int (bsN xs i)) := by rw [← hL9]; exact l2
        have m3 : L9 3 = some (.int (nI (fsN xs i))) := by rw [← hL9]; exact l3
        have m4 : L9 4 = some (.int (bI f)) := by rw [← hL9]; exact l4
        have m5 : L9 5 = some (.int (dgt (bsN xs i) (ch xs kk))) := by rw [← hL9]; rfl
        clear hL9
        have J : ∀ f2 : Bool, f2 = (f && hrm (bsN xs i) v (dgt (bsN xs i) (ch xs kk))) → Ru (d + 2) mX6_takeNumber 126 L9 [.int (bI f2)] (z_put S t (.inr (7, tF b k s e (nI kk) v sec))) (z_en mX6_takeNumber (fun v S1 => v = some (.int (if numOk xs i then 2 else -1)) ∧ S1 = z_put S t (.inr (7, tF b k s e (nI (num xs i).1) (num xs i).2.1 sec)))) := by
          intro f2 hf2
          rw [← hf2] at hs
          refine r_istore dX6_takeNumber_126 (by decide) (by first | exact z_c1_i (by first | rfl | assumption) | exact z_c1_r (by first | rfl | assumption) | exact z_c1_n (by first | rfl | assumption) | exact z_c1_c (by first | rfl | assumption) | exact z_c1_0 (by first | rfl | assumption)) ?_
          refine r_aload_n dX6_takeNumber_128 (by first | rfl | assumption) ?_
          refine r_aload_n dX6_takeNumber_129 (by first | rfl | assumption) ?_
          refine r_getf dX6_takeNumber_130 zf_X6_53 (by assumption) rfl ?_
          refine r_iload_n dX6_takeNumber_133 (by first | rfl | assumption) ?_
          refine r_i2l dX6_takeNumber_134 ?_
          refine r_lmul dX6_takeNumber_135 ?_
          refine r_iload dX6_takeNumber_136 (by first | rfl | assumption) ?_
          refine r_i2l dX6_takeNumber_138 ?_
          refine r_ladd dX6_takeNumber_139 ?_
          refine r_putf dX6_takeNumber_140 zf_X6_53 (by assumption) (Nat.le_of_ble_eq_true rfl) ⟨rfl, rfl⟩ ?_
          show Ru (d + 2) mX6_takeNumber _ _ _ (z_put (z_put S t (.inr (7, tF b k s e (nI kk) v sec))) t (.inr (7, tF b k s e (nI kk) (v * (bsN xs i).toInt64 + (dgt (bsN xs i) (ch xs kk)).toInt64) sec))) _
          rw [z_put_put]
          have ht2 : (z_put S t (.inr (7, tF b k s e (nI kk) (v * (bsN xs i).toInt64 + (dgt (bsN xs i) (ch xs kk)).toInt64) sec))).2.2 t = .inr (7, tF b k s e (nI kk) (v * (bsN xs i).toInt64 + (dgt (bsN xs i) (ch xs kk)).toInt64) sec) := va_up_self _ _ _
          refine r_aload_n dX6_takeNumber_143 (by first | rfl | assumption) ?_
          refine r_dup dX6_takeNumber_144 rfl ?_
          refine r_getf dX6_takeNumber_145 zf_X6_60 (by assumption) rfl ?_
          refine r_ic (1) dX6_takeNumber_148 rfl ?_
          refine r_iadd dX6_takeNumber_149 ?_
          rw [nI_1]
          refine r_putf dX6_takeNumber_150 zf_X6_60 (by assumption) (Nat.le_of_ble_eq_true rfl) ⟨rfl, rfl⟩ ?_
          refine r_goto (tgt := 57) dX6_takeNumber_153 (by decide) ?_
          show Ru (d + 2) mX6_takeNumber _ _ _ (z_put (z_put S t (.inr (7, tF b k s e (nI kk) (v * (bsN xs i).toInt64 + (dgt (bsN xs i) (ch xs kk)).toInt64) sec))) t (.inr (7, tF b k s e (nI (kk + 1)) (v * (bsN xs i).toInt64 + (dgt (bsN xs i) (ch xs kk)).toInt64) sec))) _
          rw [z_put_put]
          exact ih (kk + 1) _ f2 _ (by omega) (by omega) hs m0 m1 m2 m3 rfl
        by_cases q1 : f = true
        · refine r_if_eq_f (tgt := 125) dX6_takeNumber_108 (by decide) (by rw [q1]; decide) ?_
          refine r_aload_n dX6_takeNumber_111 (by first | rfl | assumption) ?_
          refine r_iload_n dX6_takeNumber_112 (by first | rfl | assumption) ?_
          refine r_iload dX6_takeNumber_113 (by first | rfl | assumption) ?_
          refine r_callV2 dX6_takeNumber_115 zm_X6_93 (by assumption) rfl (Nat.le_of_ble_eq_true rfl) (Nat.le_of_ble_eq_true rfl) (C_X6_hasRoom ht1) (fun v9 S9 hv => ?_)
          obtain ⟨hS9, rfl⟩ := hv
          subst hS9
          by_cases q2 : hrm (bsN xs i) v (dgt (bsN xs i) (ch xs kk)) = true
          · refine r_if_eq_f (tgt := 125) dX6_takeNumber_118 (by decide) (by rw [q2]; decide) ?_
            refine r_ic (1) dX6_takeNumber_121 rfl ?_
            refine r_goto (tgt := 126) dX6_takeNumber_122 (by decide) ?_
            exact J true (by rw [q1, q2]; rfl)
          · refine r_if_eq_t (tgt := 125) dX6_takeNumber_118 (by decide) (by rw [Bool.eq_false_iff.mpr q2]; rfl) ?_
            refine r_ic (0) dX6_takeNumber_125 rfl ?_
            exact J false (by rw [Bool.eq_false_iff.mpr q2]; simp)
        · refine r_if_eq_t (tgt := 125) dX6_takeNumber_108 (by decide) (by rw [Bool.eq_false_iff.mpr q1]; rfl) ?_
          refine r_ic (0) dX6_takeNumber_125 rfl ?_
          exact J false (by rw [Bool.eq_false_iff.mpr q1]; rfl)
  have mid : ∀ (L : Nat → Option Value), L 0 = some (.ref t) → L 1 = some (.int (nI i)) → L 2 = some (.int (bsN xs i)) → Ru (d + 2) mX6_takeNumber 30 L [] S (z_en mX6_takeNumber (fun v S1 => v = some (.int (if numOk xs i then 2 else -1)) ∧ S1 = z_put S t (.inr (7, tF b k s e (nI (num xs i).1) (num xs i).2.1 sec)))) := by
    intro L l0 l1 l2
    have go : ∀ fs9 : Nat, fs9 = fsN xs i → Ru (d + 2) mX6_takeNumber 43 L [.int (nI fs9)] S (z_en mX6_takeNumber (fun v S1 => v = some (.int (if numOk xs i then 2 else -1)) ∧ S1 = z_put S t (.inr (7, tF b k s e (nI (num xs i).1) (num xs i).2.1 sec)))) := by
      intro fs9 hf9
      subst hf9
      have hf9 : fsN xs i ≤ 65538 := by unfold fsN; split <;> omega
      refine r_istore_n dX6_takeNumber_43 (by decide) (by first | exact z_c1_i (by first | rfl | assumption) | exact z_c1_r (by first | rfl | assumption) | exact z_c1_n (by first | rfl | assumption) | exact z_c1_c (by first | rfl | assumption) | exact z_c1_0 (by first | rfl | assumption)) ?_
      refine r_ic (1) dX6_takeNumber_44 rfl ?_
      refine r_istore dX6_takeNumber_45 (by decide) (by first | exact z_c1_i (by first | rfl | assumption) | exact z_c1_r (by first | rfl | assumption) | exact z_c1_n (by first | rfl | assumption) | exact z_c1_c (by first | rfl | assumption) | exact z_c1_0 (by first | rfl | assumption)) ?_
      refine r_aload_n dX6_takeNumber_47 (by first | rfl | assumption) ?_
      refine r_lc (0) dX6_takeNumber_48 rfl ?_
      refine r_putf dX6_takeNumber_49 zf_X6_53 (by assumption) (Nat.le_of_ble_eq_true rfl) ⟨rfl, rfl⟩ ?_
      show Ru (d + 2) mX6_takeNumber _ _ _ (z_put S t (.inr (7, tF b k s e stop 0 sec))) _
      have ht2 : (z_put S t (.inr (7, tF b k s e stop 0 sec))).2.2 t = .inr (7, tF b k s e stop 0 sec) := va_up_self _ _ _
      refine r_aload_n dX6_takeNumber_52 (by first | rfl | assumption) ?_
      refine r_iload_n dX6_takeNumber_53 (by first | rfl | assumption) ?_
      refine r_putf dX6_takeNumber_54 zf_X6_60 (by assumption) (Nat.le_of_ble_eq_true rfl) ⟨rfl, rfl⟩ ?_
      show Ru (d + 2) mX6_takeNumber _ _ _ (z_put (z_put S t (.inr (7, tF b k s e stop 0 sec))) t (.inr (7, tF b k s e (nI (fsN xs i)) 0 sec))) _
      rw [z_put_put]
      exact loop _ (fsN xs i) 0 true _ rfl hf9 rfl l0 l1 l2 rfl rfl
    refine r_iload_n dX6_takeNumber_30 (by first | rfl | assumption) ?_
    refine r_bp (10) dX6_takeNumber_31 rfl ?_
    by_cases q : bsN xs i = 10
    · refine r_icmp_ne_f (tgt := 40) dX6_takeNumber_33 (by decide) (q) ?_
      refine r_iload_n dX6_takeNumber_36 (by first | rfl | assumption) ?_
      refine r_goto (tgt := 43) dX6_takeNumber_37 (by decide) ?_
      exact go i (by unfold fsN; rw [if_pos q])
    · refine r_icmp_ne_t (tgt := 40) dX6_takeNumber_33 (by decide) (q) ?_
      refine r_iload_n dX6_takeNumber_40 (by first | rfl | assumption) ?_
      refine r_ic (2) dX6_takeNumber_41 rfl ?_
      refine r_iadd dX6_takeNumber_42 ?_
      have e2 : nI i + 2 = nI (i + 2) := nI_add i 2
      rw [e2]
      exact go (i + 2) (by unfold fsN; rw [if_neg q])
  have kb := (hV.b hb).1
  have kb1 := kb.1
  refine r_bp (10) dX6_takeNumber_0 rfl ?_
  refine r_istore_n dX6_takeNumber_2 (by decide) (by first | exact z_c1_i (by first | rfl | assumption) | exact z_c1_r (by first | rfl | assumption) | exact z_c1_n (by first | rfl | assumption) | exact z_c1_c (by first | rfl | assumption) | exact z_c1_0 (by first | rfl | assumption)) ?_
  refine r_aload_n dX6_takeNumber_3 (by first | rfl | assumption) ?_
  refine r_getf dX6_takeNumber_4 zf_X6_24 (by assumption) rfl ?_
  refine r_iload_n dX6_takeNumber_7 (by first | rfl | assumption) ?_
  refine r_callV1 dX6_takeNumber_8 zm_X6_49 (by assumption) rfl (Nat.le_of_ble_eq_true rfl) (Nat.le_of_ble_eq_true rfl) (C_X0_at kb) (fun v S9 hv => ?_)
  obtain ⟨hS9, rfl⟩ := hv
  subst hS9
  rw [bAt_ch (by omega) (by omega)]
  refine r_bp (48) dX6_takeNumber_11 rfl ?_
  by_cases q : ch xs i = 48
  · refine r_icmp_ne_f (tgt := 30) dX6_takeNumber_13 (by decide) (q) ?_
    refine r_aload_n dX6_takeNumber_16 (by first | rfl | assumption) ?_
    refine r_getf dX6_takeNumber_17 zf_X6_24 (by assumption) rfl ?_
    refine r_iload_n dX6_takeNumber_20 (by first | rfl | assumption) ?_
    refine r_ic (1) dX6_takeNumber_21 rfl ?_
    refine r_iadd dX6_takeNumber_22 ?_
    rw [nI_1]
    refine r_callV1 dX6_takeNumber_23 zm_X6_49 (by assumption) rfl (Nat.le_of_ble_eq_true rfl) (Nat.le_of_ble_eq_true rfl) (C_X0_at kb) (fun v S9 hv => ?_)
    obtain ⟨hS9, rfl⟩ := hv
    subst hS9
    rw [bAt_ch (by omega) (by omega)]
    refine r_callS1 dX6_takeNumber_26 zm_X6_87 (Nat.le_of_ble_eq_true rfl) (Nat.le_of_ble_eq_true rfl) (C_X6_baseMarked) (fun v S9 hv => ?_)
    obtain ⟨hS9, rfl⟩ := hv
    subst hS9
    refine r_istore_n dX6_takeNumber_29 (by decide) (by first | exact z_c1_i (by first | rfl | assumption) | exact z_c1_r (by first | rfl | assumption) | exact z_c1_n (by first | rfl | assumption) | exact z_c1_c (by first | rfl | assumption) | exact z_c1_0 (by first | rfl | assumption)) ?_
    exact mid _ rfl rfl (by unfold bsN; rw [if_pos q]; rfl)
  · refine r_icmp_ne_t (tgt := 30) dX6_takeNumber_13 (by decide) (q) ?_
    exact mid _ rfl rfl (by unfold bsN; rw [if_neg q]; rfl)
end
