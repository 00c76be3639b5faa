def sgL : List Nat := [36, 37, 38, 40, 41, 42, 43, 44, 45, 47, 58, 91, 93, 94, 124, 126]
theorem sg_off : ∀ c, c < 256 → Op.lookupswitch.offset [(36, 156), (37, 156), (38, 156), (40, 156), (41, 156), (42, 156), (43, 156), (44, 156), (45, 156), (47, 156), (58, 156), (60, 158), (62, 158), (91, 156), (93, 156), (94, 156), (124, 156), (126, 156)] 185 (nI c).toInt = (if c ∈ sgL then 156 else if c = 60 ∨ c = 62 then 158 else 185) := by decide +kernel
/-- a sign c at i: where it ends -/
def sgn (xs : List Nat) (i c : Nat) : Option Nat := if c ∈ sgL then some (i + 1) else if c = 60 ∨ c = 62 then (if ch xs (i + 1) = nI c then some (i + 2) else none) else none
/-- the token at i: its kind, where it ends, its value if it is a number -/
def tk (xs : List Nat) (i : Nat) : Option (Int32 × Nat × Option Int64) :=
  if fDg (ch xs i) = true then (if numOk xs i = true then some (2, (num xs i).1, some (num xs i).2.1) else none)
  else if fNm (ch xs i) = true then (if skN xs i - i ≤ 63 then some (1, skN xs i, none) else none)
  else if ch xs i = 39 then (match chB xs (i + 1) 39 with
    | none => none
    | some q => if ch xs q.1 = 39 ∧ fNm (ch xs (q.1 + 1)) = false then some (2, q.1 + 1, some q.2.toInt64) else none)
  else if ch xs i = 34 then (match txF xs xs.length (i + 1) with
    | none => none
    | some j => some (3, j, none))
  else match sgn xs i (xs.getD i 0) with
    | none => none
    | some j => some (ch xs i, j, none)
section
variable {d : Nat} {S : zS} {E : zE} {lB lI : List Nat} {B C t b k s e lim i : Nat} {stop : Int32} {val sec : Int64} {xs : List Nat}
set_option maxRecDepth 10000 in
set_option maxHeartbeats 1000000 in
theorem C_X6_takeSign {c : Nat} (hc : c < 256) (ht : S.2.2 t = .inr (7, tF b k s e stop val sec)) (hV : Vw S E lB lI B C) (hb : E.1 b = some (lim, xs)) (hi : i ≤ 65536) : Rc (d + 1) mX6_takeSign [.ref t, .int (nI i), .int (nI c)] S (fun v S1 => (sgn xs i c = none ∧ v = some (.int (-1)) ∧ ∃ stop1, S1 = z_put S t (.inr (7, tF b k s e stop1 val sec))) ∨ ∃ j, sgn xs i c = some j ∧ v = some (.int (nI c)) ∧ S1 = z_put S t (.inr (7, tF b k s e (nI j) val sec))) := by
  have hraw := hV.raw ht (by decide) (by decide)
  have hxl : xs.length ≤ 65536 := by
    have k := (hV.b hb).1
    exact Nat.le_trans k.2.2.2.1 k.2.2.2.2.2
  refine Rc.of ?_
  refine r_aload_n dX6_takeSign_0 (by first | rfl | assumption) ?_
  refine r_iload_n dX6_takeSign_1 (by first | rfl | assumption) ?_
  refine r_ic (1) dX6_takeSign_2 rfl ?_
  refine r_iadd dX6_takeSign_3 ?_
  rw [nI_1]
  refine r_putf dX6_takeSign_4 zf_X6_60 (by assumption) (Nat.le_of_ble_eq_true rfl) ⟨rfl, rfl⟩ ?_
  refine r_iload_n dX6_takeSign_7 (by first | rfl | assumption) ?_
  have ht1 : (z_put S t (.inr (7, tF b k s e (nI (i + 1)) val sec))).2.2 t = .inr (7, tF b k s e (nI (i + 1)) val sec) := va_up_self _ _ _
  show Ru (d + 1) mX6_takeSign _ _ _ (z_put S t (.inr (7, tF b k s e (nI (i + 1)) val sec))) _
  have ho := sg_off c hc
  by_cases q1 : c ∈ sgL
  · rw [if_pos q1] at ho
    refine r_lookup (tgt := 164) dX6_takeSign_8 (by decide) ho (by decide) ?_
    refine r_iload_n dX6_takeSign_164 (by first | rfl | assumption) ?_
    refine r_ireturn dX6_takeSign_165 _ rfl rfl (Or.inr ⟨i + 1, by unfold sgn; rw [if_pos q1], rfl, rfl⟩)
  · rw [if_neg q1] at ho
    by_cases q2 : c = 60 ∨ c = 62
    · rw [if_pos q2] at ho
      refine r_lookup (tgt := 166) dX6_takeSign_8 (by decide) ho (by decide) ?_
      have e2 : nI i + 2 = nI (i + 2) := nI_add i 2
      refine r_aload_n dX6_takeSign_166 (by first | rfl | assumption) ?_
      refine r_iload_n dX6_takeSign_167 (by first | rfl | assumption) ?_
      refine r_ic (2) dX6_takeSign_168 rfl ?_
      refine r_iadd dX6_takeSign_169 ?_
      rw [e2]
      refine r_putf dX6_takeSign_170 zf_X6_60 (by assumption) (Nat.le_of_ble_eq_true rfl) ⟨rfl, rfl⟩ ?_
      show Ru (d + 1) mX6_takeSign _ _ _ (z_put (z_put S t (.inr (7, tF b k s e (nI (i + 1)) val sec))) t (.inr (7, tF b k s e (nI (i + 2)) val sec))) _
      rw [z_put_put]
      have hV2 := hV.put (c := .inr (7, tF b k s e (nI (i + 2)) val sec)) hraw
      have ht2 : (z_put S t (.inr (7, tF b k s e (nI (i + 2)) val sec))).2.2 t = .inr (7, tF b k s e (nI (i + 2)) val sec) := va_up_self _ _ _
      have kb := (hV2.b hb).1
      have kb1 := kb.1
      refine r_aload_n dX6_takeSign_173 (by first | rfl | assumption) ?_
      refine r_getf dX6_takeSign_174 zf_X6_24 (by assumption) rfl ?_
      refine r_iload_n dX6_takeSign_177 (by first | rfl | assumption) ?_
      refine r_ic (1) dX6_takeSign_178 rfl ?_
      refine r_iadd dX6_takeSign_179 ?_
      rw [nI_1]
      refine r_callV1 dX6_takeSign_180 zm_X6_49 (by assumption) rfl (Nat.le_of_ble_eq_true rfl) (Nat.le_of_ble_eq_true rfl) (C_X0_at kb) (fun v S9 hv => ?_)
      obtain ⟨hS9, rfl⟩ := hv
      subst hS9
      rw [bAt_ch (by omega) (by omega)]
      refine r_iload_n dX6_takeSign_183 (by first | rfl | assumption) ?_
      by_cases q3 : ch xs (i + 1) = nI c
      · refine r_icmp_ne_f (tgt := 191) dX6_takeSign_184 (by decide) (q3) ?_
        refine r_iload_n dX6_takeSign_187 (by first | rfl | assumption) ?_
        refine r_goto (tgt := 192) dX6_takeSign_188 (by decide) ?_
        refine r_ireturn dX6_takeSign_192 _ rfl rfl (Or.inr ⟨i + 2, by unfold sgn; rw [if_neg q1, if_pos q2, if_pos q3], rfl, rfl⟩)
      · refine r_icmp_ne_t (tgt := 191) dX6_takeSign_184 (by decide) (q3) ?_
        refine r_ic (-1) dX6_takeSign_191 rfl ?_
        refine r_ireturn dX6_takeSign_192 _ rfl rfl (Or.inl ⟨by unfold sgn; rw [if_neg q1, if_pos q2, if_neg q3], rfl, _, rfl⟩)
    · rw [if_neg q2] at ho
      refine r_lookup (tgt := 193) dX6_takeSign_8 (by decide) ho (by decide) ?_
      refine r_ic (-1) dX6_takeSign_193 rfl ?_
      refine r_ireturn dX6_takeSign_194 _ rfl rfl (Or.inl ⟨by unfold sgn; rw [if_neg q1, if_neg q2], rfl, _, rfl⟩)
theorem skN_lt (h : i < xs.length) : skN xs i ≤ xs.length := (skN_le (Nat.le_of_lt h)).2
set_option maxRecDepth 10000 in
set_option maxHeartbeats 1000000 in
theorem C_X6_take (ht : S.2.2 t = .inr (7, tF b k s e stop val sec)) (hV : Vw S E lB lI B C) (hb : E.1 b = some (lim, xs)) (hi : i < xs.length) : Rc (d + 3) mX6_take [.ref t, .int (nI i)] S (fun v S1 => (tk xs i = none ∧ v = some (.int (-1)) ∧ ∃ stop1 val1, S1 = z_put S t (.inr (7, tF b k s e stop1 val1 sec))) ∨ ∃ kd j ov val1, tk xs i = some (kd, j, ov) ∧ v = some (.int kd) ∧ S1 = z_put S t (.inr (7, tF b k s e (nI j) val1 sec)) ∧ ∀ x, ov = some x → val1 = x) := by
  have hraw := hV.raw ht (by decide) (by decide)
  have kb := (hV.b hb).1
  have kb1 := kb.1
  have hxl : xs.length ≤ 65536 := Nat.le_trans kb.2.2.2.1 kb.2.2.2.2.2
  have hc256 : xs.getD i 0 < 256 := by
    obtain ⟨-, ⟨g, -, h8⟩, -⟩ := kb
    exact (h8 i hi).1
  have hch : ch xs i = nI (xs.getD i 0) := if_pos hi
  have hself := t_self ht
  refine Rc.of ?_
  refine r_aload_n dX6_take_0 (by first | rfl | assumption) ?_
  refine r_getf dX6_take_1 zf_X6_24 (by assumption) rfl ?_
  refine r_iload_n dX6_take_4 (by first | rfl | assumption) ?_
  refine r_callV1 dX6_take_5 zm_X6_49 (by assumption) rfl (Nat.le_of_ble_eq_true rfl) (Nat.le_of_ble_eq_true rfl) (C_X0_at kb) (fun v S9 hv => ?_)
  obtain ⟨hS9, rfl⟩ := hv
  subst hS9
  rw [bAt_ch (by omega) (by omega)]
  refine r_istore_n dX6_take_8 (by decide) (by first | exact z_c1_i (by first | rfl | assumption) | exact z_c1_r (by first | rfl | assumption) | exact z_c1_n (by first | rfl | assumption) | exact z_c1_c (by first | rfl | assumption) | exact z_c1_0 (by first | rfl | assumption)) ?_
  refine r_iload_n dX6_take_9 (by first | rfl | assumption) ?_
  refine r_callSN1 dX6_take_10 zm_X6_64 (Nat.le_of_ble_eq_true rfl) (Nat.le_of_ble_eq_true rfl) (C_X7_isDigit) (fun v S9 hv => ?_)
  obtain ⟨hS9, rfl⟩ := hv
  subst hS9
  by_cases q1 : fDg (ch xs i) = true
  · refine r_if_eq_f (tgt := 22) dX6_take_13 (by decide) (by rw [q1]; decide) ?_
    refine r_aload_n dX6_take_16 (by first | rfl | assumption) ?_
    refine r_iload_n dX6_take_17 (by first | rfl | assumption) ?_
    refine r_callV1 dX6_take_18 zm_X6_68 (by assumption) rfl (Nat.le_of_ble_eq_true rfl) (Nat.le_of_ble_eq_true rfl) (C_X6_takeNumber ht hV hb (show i ≤ 65536 by omega)) (fun v S9 hv => ?_)
    obtain ⟨rfl, rfl⟩ := hv
    refine r_ireturn dX6_take_21 _ rfl rfl ?_
    by_cases q2 : numOk xs i = true
    · refine Or.inr ⟨2, (num xs i).1, some (num xs i).2.1, _, ?_, ?_, rfl, fun x hx => Option.some.inj hx⟩
      · unfold tk; rw [if_pos q1, if_pos q2]
      · rw [if_pos q2]
    · refine Or.inl ⟨?_, ?_, _, _, rfl⟩
      · unfold tk; rw [if_pos q1, if_neg q2]
      · rw [if_neg q2]
  · refine r_if_eq_t (tgt := 22) dX6_take_13 (by decide) (by rw [Bool.eq_false_iff.mpr q1]; rfl) ?_
    refine r_iload_n dX6_take_22 (by first | rfl | assumption) ?_
    refine r_callSN1 dX6_take_23 zm_X6_71 (Nat.le_of_ble_eq_true rfl) (Nat.le_of_ble_eq_true rfl) (C_X7_isNameByte) (fun v S9 hv => ?_)
    obtain ⟨hS9, rfl⟩ := hv
    subst hS9
    by_cases q2 : fNm (ch xs i) = true
    · refine r_if_eq_f (tgt := 58) dX6_take_26 (by decide) (by rw [q2]; decide) ?_
      refine r_aload_n dX6_take_29 (by first | rfl | assumption) ?_
      refine r_aload_n dX6_take_30 (by first | rfl | assumption) ?_
      refine r_getf dX6_take_31 zf_X6_24 (by assumption) rfl ?_
      refine r_iload_n dX6_take_34 (by first | rfl | assumption) ?_
      refine r_callV1 dX6_take_35 zm_X6_74 (by assumption) rfl (Nat.le_of_ble_eq_true rfl) (Nat.le_of_ble_eq_true rfl) (C_X0_behindNameBytes kb (show i < 2 ^ 20 by omega)) (fun v S9 hv => ?_)
      obtain ⟨hS9, rfl⟩ := hv
      subst hS9
      have q3 := skN_le (Nat.le_of_lt hi)
      refine r_putf dX6_take_38 zf_X6_60 (by assumption) (Nat.le_of_ble_eq_true rfl) ⟨rfl, rfl⟩ ?_
      show Ru (d + 3) mX6_take _ _ _ (z_put S9 t (.inr (7, tF b k s e (nI (skN xs i)) val sec))) _
      have ht1 : (z_put S9 t (.inr (7, tF b k s e (nI (skN xs i)) val sec))).2.2 t = .inr (7, tF b k s e (nI (skN xs i)) val sec) := va_up_self _ _ _
      refine r_aload_n dX6_take_41 (by first | rfl | assumption) ?_
      refine r_getf dX6_take_42 zf_X6_60 (by assumption) rfl ?_
      refine r_iload_n dX6_take_45 (by first | rfl | assumption) ?_
      refine r_isub dX6_take_46 ?_
      rw [pk_sub q3.1]
      refine r_bp (63) dX6_take_47 rfl ?_
      by_cases q4 : skN xs i - i ≤ 63
      · refine r_icmp_gt_f (tgt := 56) dX6_take_49 (by decide) (nI_nlt (a := 63) (b := skN xs i - i) q4 (by omega)) ?_
        refine r_ic (1) dX6_take_52 rfl ?_
        refine r_goto (tgt := 57) dX6_take_53 (by decide) ?_
        refine r_ireturn dX6_take_57 _ rfl rfl (Or.inr ⟨1, skN xs i, none, val, by unfold tk; rw [if_neg q1, if_pos q2, if_pos q4], rfl, rfl, fun x hx => by cases hx⟩)
      · refine r_icmp_gt_t (tgt := 56) dX6_take_49 (by decide) (nI_lt (a := 63) (b := skN xs i - i) (by omega) (by omega)) ?_
        refine r_ic (-1) dX6_take_56 rfl ?_
        refine r_ireturn dX6_take_57 _ rfl rfl (Or.inl ⟨by unfold tk; rw [if_neg q1, if_pos q2, if_neg q4], rfl, _, _, rfl⟩)
    · refine r_if_eq_t (tgt := 58) dX6_take_26 (by decide) (by rw [Bool.eq_false_iff.mpr q2]; rfl) ?_
      refine r_iload_n dX6_take_58 (by first | rfl | assumption) ?_
      refine r_bp (39) dX6_take_59 rfl ?_
      by_cases q3 : ch xs i = 39
      · refine r_icmp_ne_f (tgt := 70) dX6_take_61 (by decide) (q3) ?_
        refine r_aload_n dX6_take_64 (by first | rfl | assumption) ?_
        refine r_iload_n dX6_take_65 (by first | rfl | assumption) ?_
        refine r_callV1 dX6_take_66 zm_X6_77 (by assumption) rfl (Nat.le_of_ble_eq_true rfl) (Nat.le_of_ble_eq_true rfl) (C_X6_takeCharacter ht hV hb (show i ≤ 65536 by omega)) (fun v S9 hv => ?_)
        rcases hv with ⟨e0, rfl, val1, rfl⟩ | ⟨j, c, e0, e1, e2, rfl, rfl⟩
        · refine r_ireturn dX6_take_69 _ rfl rfl (Or.inl ⟨?_, rfl, _, _, rfl⟩)
          unfold tk
          rw [if_neg q1, if_neg q2, if_pos q3]
          cases hq : chB xs (i + 1) 39 with
          | none => rfl
          | some q =>
            have := e0 q.1 q.2 hq
            show (if ch xs q.1 = 39 ∧ fNm (ch xs (q.1 + 1)) = false then _ else none) = none
            rw [if_neg (fun z => this.elim (fun y => y z.1) (fun y => by rw [z.2] at y; cases y))]
        · refine r_ireturn dX6_take_69 _ rfl rfl (Or.inr ⟨2, j + 1, some c.toInt64, c.toInt64, ?_, rfl, rfl, fun x hx => Option.some.inj hx⟩)
          unfold tk
          rw [if_neg q1, if_neg q2, if_pos q3, e0]
          show (if ch xs j = 39 ∧ fNm (ch xs (j + 1)) = false then _ else none) = _
          rw [if_pos ⟨e1, e2⟩]
      · refine r_icmp_ne_t (tgt := 70) dX6_take_61 (by decide) (q3) ?_
        refine r_iload_n dX6_take_70 (by first | rfl | assumption) ?_
        refine r_bp (34) dX6_take_71 rfl ?_
        by_cases q4 : ch xs i = 34
        · refine r_icmp_ne_f (tgt := 84) dX6_take_73 (by decide) (q4) ?_
          refine r_aload_n dX6_take_76 (by first | rfl | assumption) ?_
          refine r_iload_n dX6_take_77 (by first | rfl | assumption) ?_
          refine r_callV1 dX6_take_78 zm_X6_80 (by assumption) rfl (Nat.le_of_ble_eq_true rfl) (Nat.le_of_ble_eq_true rfl) (C_X6_takeText ht hV hb (show i ≤ 65536 by omega)) (fun v S9 hv => ?_)
          rcases hv with ⟨e0, rfl, val1, rfl⟩ | ⟨j, val1, e0, rfl, rfl⟩
          · refine r_goto (tgt := 90) dX6_take_81 (by decide) ?_
            refine r_ireturn dX6_take_90 _ rfl rfl (Or.inl ⟨by unfold tk; rw [if_neg q1, if_neg q2, if_neg q3, if_pos q4, e0], rfl, _, _, rfl⟩)
          · refine r_goto (tgt := 90) dX6_take_81 (by decide) ?_
            refine r_ireturn dX6_take_90 _ rfl rfl (Or.inr ⟨3, j, none, val1, by unfold tk; rw [if_neg q1, if_neg q2, if_neg q3, if_pos q4, e0], rfl, rfl, fun x hx => by cases hx⟩)
        · refine r_icmp_ne_t (tgt := 84) dX6_take_73 (by decide) (q4) ?_
          refine r_aload_n dX6_take_84 (by first | rfl | assumption) ?_
          refine r_iload_n dX6_take_85 (by first | rfl | assumption) ?_
          refine r_iload_n dX6_take_86 (by first | rfl | assumption) ?_
          rw [hch]
          refine r_callV2 dX6_take_87 zm_X6_83 (by assumption) rfl (Nat.le_of_ble_eq_true rfl) (Nat.le_of_ble_eq_true rfl) (C_X6_takeSign hc256 ht hV hb (show i ≤ 65536 by omega)) (fun v S9 hv => ?_)
          rcases hv with ⟨e0, rfl, stop1, rfl⟩ | ⟨j, e0, rfl, rfl⟩
          · refine r_ireturn dX6_take_90 _ rfl rfl (Or.inl ⟨by unfold tk; rw [if_neg q1, if_neg q2, if_neg q3, if_neg q4, e0], rfl, _, _, rfl⟩)
          · refine r_ireturn dX6_take_90 _ rfl rfl (Or.inr ⟨nI (xs.getD i 0), j, none, val, by unfold tk; rw [if_neg q1, if_neg q2, if_neg q3, if_neg q4, e0, hch], rfl, rfl, fun x hx => by cases hx⟩)
end
