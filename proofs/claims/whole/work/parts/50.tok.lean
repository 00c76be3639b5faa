/-! THE REFERENCE: tokens -/
theorem ovU {v : Int64} : (1844674407370955161 + (-9223372036854775808) : Int64) < v + (-9223372036854775808) ↔ (v < 0 ∨ (1844674407370955161 : Int64) < v) := by
  rw [Int64.lt_iff_toInt_lt, Int64.lt_iff_toInt_lt, Int64.lt_iff_toInt_lt, Int64.toInt_add, Int64.toInt_add]
  have h1 := Int64.toInt_lt v
  have h2 := Int64.le_toInt v
  have e1 : (1844674407370955161 : Int64).toInt = 1844674407370955161 := by decide
  have e2 : (-9223372036854775808 : Int64).toInt = -9223372036854775808 := by decide
  have e3 : (0 : Int64).toInt = 0 := by decide
  rw [e1, e2, e3, Int.bmod_def, Int.bmod_def]
  split <;> split <;> omega
theorem lg_gt {x y : Int64} : 0 < lg_cmp x y ↔ y < x := by
  unfold lg_cmp
  constructor
  · intro h
    split at h
    · assumption
    · split at h
      · exact absurd h (by decide)
      · exact absurd h (by decide)
  · intro h
    rw [if_pos h]
    decide
theorem lg_lt {x y : Int64} : lg_cmp x y < 0 ↔ x < y := by
  unfold lg_cmp
  constructor
  · intro h
    split at h
    · exact absurd h (by decide)
    · split at h
      · exact absurd h (by decide)
      · next q1 q2 => exact Int64.lt_of_le_of_ne (Int64.not_lt.mp q1) q2
  · intro h
    rw [if_neg (show ¬ y < x from Int64.not_lt.mpr (Int64.le_of_lt h)), if_neg (fun e => Int64.lt_irrefl (e ▸ h))]
    decide
/-- no room, as the reference asks -/
theorem ov10 {v : Int64} {dg : Int32} : (0 < lg_cmp (v + (-9223372036854775808)) (1844674407370955161 + (-9223372036854775808)) ∨ (lg_cmp v 1844674407370955161 = 0 ∧ ¬ dg ≤ 5)) ↔ hrm 10 v dg = false := by
  rw [lg_gt, ovU]
  unfold hrm
  rw [if_neg (by decide), if_neg (by decide)]
  simp only [Bool.and_eq_false_iff, Bool.or_eq_false_iff, Bool.not_eq_false', decide_eq_true_eq, decide_eq_false_iff_not, lg_lt, lcmp_0]
  constructor
  · rintro ((h | h) | ⟨h1, h2⟩)
    · exact Or.inl h
    · exact Or.inr ⟨Int64.not_lt.mpr (Int64.le_of_lt h), Or.inl (fun e => Int64.lt_irrefl (e ▸ h))⟩
    · exact Or.inr ⟨by rw [h1]; exact Int64.lt_irrefl, Or.inr (Int32.not_le.mp h2)⟩
  · rintro (h | ⟨h1, h2⟩)
    · exact Or.inl (Or.inl h)
    · rcases Classical.em (v = 1844674407370955161) with e | e
      · rcases h2 with h2 | h2
        · exact absurd e h2
        · exact Or.inr ⟨e, Int32.not_le.mpr h2⟩
      · exact Or.inl (Or.inr (Int64.lt_of_le_of_ne (Int64.not_lt.mp h1) (fun z => e z.symm)))
/-- a token as the reference has it -/
def tkm (xs : List Nat) (t : zT) (what : Int32) (v : Int64) : Prop := (t.1 = 1 ∧ what = 1 ∧ v = pkV (seg xs t.2.1 t.2.2.1)) ∨ (t.1 = 2 ∧ what = 2 ∧ t.2.2.2 = some v) ∨ (t.1 = 3 ∧ what = 3) ∨ (32 < t.1 ∧ what = 4 ∧ v = if t.1 = 60 then 256 else if t.1 = 62 then 257 else t.1.toInt64)
def TK (r : zR) (xs : List Nat) (ts : List zT) : Prop := r.1 41 = nI ts.length ∧ ts.length ≤ 1030 ∧ ∀ i, i < ts.length → r.2.1 238 i = nI (ts.getD i t0).2.1 ∧ r.2.1 239 i = nI ((ts.getD i t0).2.2.1 - (ts.getD i t0).2.1) ∧ tkm xs (ts.getD i t0) (r.2.1 237 i) (r.2.2 240 i)
def rT (r : zR) (n : Nat) (w s l : Int32) (v : Int64) : zR := rF (rV (rA (rA (rA r 237 n w) 238 n s) 239 n l) 240 n v) 41 (nI (n + 1))
section
variable {d : Nat} {S : zS} {r : zR} {xs : List Nat} {ts : List zT}
theorem rT_x {n : Nat} {w s l : Int32} {v : Int64} : eqx [41] [237, 238, 239, 240] r (rT r n w s l v) := ((((eqx.a (by decide)).tr (eqx.a (by decide))).tr (eqx.a (by decide))).tr (eqx.v (by decide))).tr (eqx.f (by decide))
theorem rT_v {n : Nat} {w s l : Int32} {v : Int64} : (rT r n w s l v).1 41 = nI (n + 1) ∧ (rT r n w s l v).2.1 237 n = w ∧ (rT r n w s l v).2.1 238 n = s ∧ (rT r n w s l v).2.1 239 n = l ∧ (rT r n w s l v).2.2 240 n = v := by
  refine ⟨rfl, ?_, ?_, ?_, ?_⟩
  · show (rA (rA (rA r 237 n w) 238 n s) 239 n l).2.1 237 n = w
    rw [rA_o (by decide), rA_o (by decide), rA_at]
  · show (rA (rA (rA r 237 n w) 238 n s) 239 n l).2.1 238 n = s
    rw [rA_o (by decide), rA_at]
  · show (rA (rA (rA r 237 n w) 238 n s) 239 n l).2.1 239 n = l
    rw [rA_at]
  · show va_up r.2.2 240 (vp_updL (r.2.2 240) n v) 240 n = v
    rw [va_up_self]
    exact if_pos rfl
theorem rT_o {n i : Nat} {w s l : Int32} {v : Int64} (h : i ≠ n) : (rT r n w s l v).2.1 237 i = r.2.1 237 i ∧ (rT r n w s l v).2.1 238 i = r.2.1 238 i ∧ (rT r n w s l v).2.1 239 i = r.2.1 239 i ∧ (rT r n w s l v).2.2 240 i = r.2.2 240 i := by
  refine ⟨?_, ?_, ?_, ?_⟩
  · show (rA (rA (rA r 237 n w) 238 n s) 239 n l).2.1 237 i = _
    rw [rA_o (by decide), rA_o (by decide), rA_ne h]
  · show (rA (rA (rA r 237 n w) 238 n s) 239 n l).2.1 238 i = _
    rw [rA_o (by decide), rA_ne h, rA_o (by decide)]
  · show (rA (rA (rA r 237 n w) 238 n s) 239 n l).2.1 239 i = _
    rw [rA_ne h, rA_o (by decide), rA_o (by decide)]
  · show va_up r.2.2 240 (vp_updL (r.2.2 240) n v) 240 i = _
    rw [va_up_self]
    exact if_neg h
theorem TK.add {t : zT} {w : Int32} {v : Int64} (h : TK r xs ts) (hl : ts.length < 1030) (hm : tkm xs t w v) : TK (rT r ts.length w (nI t.2.1) (nI (t.2.2.1 - t.2.1)) v) xs (ts ++ [t]) := by
  have e : (ts ++ [t]).length = ts.length + 1 := by rw [List.length_append]; rfl
  have hv := rT_v (r := r) (n := ts.length) (w := w) (s := nI t.2.1) (l := nI (t.2.2.1 - t.2.1)) (v := v)
  refine ⟨by rw [e]; exact hv.1, by omega, fun i hi => ?_⟩
  rw [e] at hi
  by_cases q : i < ts.length
  · have ho := rT_o (r := r) (n := ts.length) (w := w) (s := nI t.2.1) (l := nI (t.2.2.1 - t.2.1)) (v := v) (i := i) (by omega)
    rw [ho.1, ho.2.1, ho.2.2.1, ho.2.2.2, List.getD_eq_getElem?_getD, List.getElem?_append_left q, ← List.getD_eq_getElem?_getD]
    exact h.2.2 i q
  · have : i = ts.length := by omega
    subst this
    rw [hv.2.1, hv.2.2.1, hv.2.2.2.1, hv.2.2.2.2, List.getD_eq_getElem?_getD, List.getElem?_append_right (Nat.le_refl _), Nat.sub_self]
    exact ⟨rfl, rfl, hm⟩
theorem TK.mv {F A : List Nat} {r' : zR} (h : TK r xs ts) (k : eqx F A r r') (h1 : 41 ∉ F) (h2 : 237 ∉ A ∧ 238 ∉ A ∧ 239 ∉ A ∧ 240 ∉ A) : TK r' xs ts := by
  refine ⟨(k.1 41 h1).trans h.1, h.2.1, ?_⟩
  rw [(k.2 237 h2.1).1, (k.2 238 h2.2.1).1, (k.2 239 h2.2.2.1).1, (k.2 240 h2.2.2.2).2]
  exact h.2.2
theorem C_X8_token {n s e : Nat} {w : Int32} {v : Int64} (h : r.1 41 = nI n) (hn : n < 1110) (hse : s ≤ e) : Rc d mX8_token [.ref 165, .int w, .int (nI s), .int (nI e), .long v] (RS S r) (fun u S1 => u = none ∧ S1 = RS S (rT r n w (nI s) (nI (e - s)) v)) := by
  refine Rc.of ?_
  refine r_aload_n dX8_token_0 (by first | rfl | assumption) ?_
  refine r8_get dX8_token_1 zf_X8_90 rfl ?_
  refine r_aload_n dX8_token_4 (by first | rfl | assumption) ?_
  refine r8_get dX8_token_5 zf_X8_215 rfl ?_
  rw [h]
  refine r_iload_n dX8_token_8 (by first | rfl | assumption) ?_
  refine r8_iast dX8_token_9 (by decide) (rfl) (by first | assumption | exact (show _ < 65536 by omega) | exact (show _ < 1100 by omega) | exact (show _ < 24 by omega) | exact (show _ < 2100 by omega) | exact (show _ < 6600 by omega) | exact (show _ < 1110 by omega)) ?_
  refine r_aload_n dX8_token_10 (by first | rfl | assumption) ?_
  refine r8_get dX8_token_11 zf_X8_93 rfl ?_
  refine r_aload_n dX8_token_14 (by first | rfl | assumption) ?_
  refine r8_get dX8_token_15 zf_X8_215 rfl ?_
  rw [show (rA r 237 n w).1 41 = nI n from h]
  refine r_iload_n dX8_token_18 (by first | rfl | assumption) ?_
  refine r8_iast dX8_token_19 (by decide) (rfl) (by first | assumption | exact (show _ < 65536 by omega) | exact (show _ < 1100 by omega) | exact (show _ < 24 by omega) | exact (show _ < 2100 by omega) | exact (show _ < 6600 by omega) | exact (show _ < 1110 by omega)) ?_
  refine r_aload_n dX8_token_20 (by first | rfl | assumption) ?_
  refine r8_get dX8_token_21 zf_X8_96 rfl ?_
  refine r_aload_n dX8_token_24 (by first | rfl | assumption) ?_
  refine r8_get dX8_token_25 zf_X8_215 rfl ?_
  rw [show (rA (rA r 237 n w) 238 n (nI s)).1 41 = nI n from h]
  refine r_iload_n dX8_token_28 (by first | rfl | assumption) ?_
  refine r_iload_n dX8_token_29 (by first | rfl | assumption) ?_
  refine r_isub dX8_token_30 ?_
  rw [nI_sub hse]
  refine r8_iast dX8_token_31 (by decide) (rfl) (by first | assumption | exact (show _ < 65536 by omega) | exact (show _ < 1100 by omega) | exact (show _ < 24 by omega) | exact (show _ < 2100 by omega) | exact (show _ < 6600 by omega) | exact (show _ < 1110 by omega)) ?_
  refine r_aload_n dX8_token_32 (by first | rfl | assumption) ?_
  refine r8_get dX8_token_33 zf_X8_99 rfl ?_
  refine r_aload_n dX8_token_36 (by first | rfl | assumption) ?_
  refine r8_get dX8_token_37 zf_X8_215 rfl ?_
  rw [show (rA (rA (rA r 237 n w) 238 n (nI s)) 239 n (nI (e - s))).1 41 = nI n from h]
  refine r_lload dX8_token_40 (by first | rfl | assumption) ?_
  refine r8_last dX8_token_42 (by first | assumption | omega) ?_
  refine r_aload_n dX8_token_43 (by first | rfl | assumption) ?_
  refine r_dup dX8_token_44 rfl ?_
  refine r8_get dX8_token_45 zf_X8_215 rfl ?_
  refine r_ic (1) dX8_token_48 rfl ?_
  refine r_iadd dX8_token_49 ?_
  rw [show (rV (rA (rA (rA r 237 n w) 238 n (nI s)) 239 n (nI (e - s))) 240 n v).1 41 = nI n from h, nI_1]
  refine r8_put dX8_token_50 zf_X8_215 (Nat.le_of_ble_eq_true rfl) rfl (⟨rfl, rfl⟩) ?_
  refine r_return dX8_token_53 rfl ⟨rfl, rfl⟩
/-- the line's bytes, where they all fitted -/
theorem LN.at (h : LN r xs) (hl : xs.length ≤ 1024) {k : Nat} (hk : k < xs.length) : xs.getD k 0 < 256 ∧ r.2.1 168 k = sb_b (xs.getD k 0) := ⟨(h.2.2 k hk).1, (h.2.2 k hk).2 (by omega)⟩
theorem ch_in {k : Nat} (h : k < xs.length) : ch xs k = nI (xs.getD k 0) := if_pos h
theorem fPr_lt {b : Nat} (hb : b < 256) (h : fPr (nI b) = true) : b < 128 ∧ sb_b b = nI b := by
  have : ∀ b, b < 256 → fPr (nI b) = true → b < 128 := by decide +kernel
  exact ⟨this b hb h, sb_low b (this b hb h)⟩
theorem fPr_ge {b : Nat} (hb : b < 256) : fPr (nI b) = true ↔ ¬ sb_b b < 32 ∧ ¬ 126 < sb_b b := by
  rw [← (sbx b hb).2.2.2.2.1]
  unfold fPr
  simp
set_option maxRecDepth 10000 in
set_option maxHeartbeats 1000000 in
theorem C_X8_character {k q : Nat} (h : LN r xs) (hl : xs.length ≤ 1024) (hk : k ≤ 1100) (hq : q < 128) : Rc d mX8_character [.ref 165, .int (nI k), .int (nI q)] (RS S r) (fun v S1 => ∃ r', S1 = RS S r' ∧ eqx [46] [] r r' ∧ match chB xs k (nI q) with
    | none => v = some (.int (-1))
    | some z => v = some (.int (nI z.1)) ∧ r'.1 46 = z.2) := by
  refine Rc.of ?_
  have l40 : chB xs k (nI q) = none → ∀ L : Nat → Option Value, Ru d mX8_character 40 L [] (RS S r) (z_en mX8_character (fun v S1 => ∃ r', S1 = RS S r' ∧ eqx [46] [] r r' ∧ match chB xs k (nI q) with
      | none => v = some (.int (-1))
      | some z => v = some (.int (nI z.1)) ∧ r'.1 46 = z.2)) := by
    intro e L
    refine r_ic (-1) dX8_character_40 rfl ?_
    refine r_ireturn dX8_character_41 _ rfl rfl ⟨r, rfl, eqx.rf, by rw [e]⟩
  refine r_iload_n dX8_character_0 (by first | rfl | assumption) ?_
  refine r_aload_n dX8_character_1 (by first | rfl | assumption) ?_
  refine r8_get dX8_character_2 zf_X8_199 rfl ?_
  rw [h.1]
  by_cases q0 : xs.length ≤ k
  · refine r_icmp_ge_t (tgt := 40) dX8_character_5 (by decide) (nI_le q0 (by omega)) ?_
    refine l40 ?_ _
    unfold chB
    rw [if_pos (Or.inl (by rw [ch_out q0]; rfl))]
  refine r_icmp_ge_f (tgt := 40) dX8_character_5 (by decide) (nI_ge (a := k) (b := xs.length) (by omega) (by omega)) ?_
  have hb := h.at hl (k := k) (by omega)
  have ec := ch_in (xs := xs) (k := k) (by omega)
  have hp := fPr_ge hb.1
  refine r_aload_n dX8_character_8 (by first | rfl | assumption) ?_
  refine r8_get dX8_character_9 zf_X8_21 rfl ?_
  refine r_iload_n dX8_character_12 (by first | rfl | assumption) ?_
  refine r8_bald dX8_character_13 (by decide) (rfl) (by first | assumption | exact (show _ < 65536 by omega) | exact (show _ < 1100 by omega) | exact (show _ < 24 by omega) | exact (show _ < 2100 by omega) | exact (show _ < 6600 by omega) | exact (show _ < 1110 by omega)) ?_
  rw [hb.2]
  refine r_iload_n dX8_character_14 (by first | rfl | assumption) ?_
  by_cases q1 : xs.getD k 0 = q
  · refine r_icmp_eq_t (tgt := 40) dX8_character_15 (by decide) (by rw [q1]; exact sb_low q hq) ?_
    refine l40 ?_ _
    unfold chB
    rw [if_pos (Or.inr (by rw [ec, q1]))]
  refine r_icmp_eq_f (tgt := 40) dX8_character_15 (by decide) (fun z => q1 ((sb_is hb.1 hq).mp z)) ?_
  refine r_aload_n dX8_character_18 (by first | rfl | assumption) ?_
  refine r8_get dX8_character_19 zf_X8_21 rfl ?_
  refine r_iload_n dX8_character_22 (by first | rfl | assumption) ?_
  refine r8_bald dX8_character_23 (by decide) (rfl) (by first | assumption | exact (show _ < 65536 by omega) | exact (show _ < 1100 by omega) | exact (show _ < 24 by omega) | exact (show _ < 2100 by omega) | exact (show _ < 6600 by omega) | exact (show _ < 1110 by omega)) ?_
  rw [hb.2]
  refine r_bp (32) dX8_character_24 rfl ?_
  by_cases q2 : sb_b (xs.getD k 0) < 32
  · refine r_icmp_lt_t (tgt := 40) dX8_character_26 (by decide) (q2) ?_
    refine l40 ?_ _
    unfold chB
    rw [if_pos (Or.inl (by rw [ec]; exact Bool.eq_false_iff.mpr (fun z => (hp.mp z).1 q2)))]
  refine r_icmp_lt_f (tgt := 40) dX8_character_26 (by decide) (q2) ?_
  refine r_aload_n dX8_character_29 (by first | rfl | assumption) ?_
  refine r8_get dX8_character_30 zf_X8_21 rfl ?_
  refine r_iload_n dX8_character_33 (by first | rfl | assumption) ?_
  refine r8_bald dX8_character_34 (by decide) (rfl) (by first | assumption | exact (show _ < 65536 by omega) | exact (show _ < 1100 by omega) | exact (show _ < 24 by omega) | exact (show _ < 2100 by omega) | exact (show _ < 6600 by omega) | exact (show _ < 1110 by omega)) ?_
  rw [hb.2]
  refine r_bp (126) dX8_character_35 rfl ?_
  by_cases q3 : 126 < sb_b (xs.getD k 0)
  · refine r_icmp_le_f (tgt := 42) dX8_character_37 (by decide) (Int32.not_le.mpr q3) ?_
    refine l40 ?_ _
    unfold chB
    rw [if_pos (Or.inl (by rw [ec]; exact Bool.eq_false_iff.mpr (fun z => (hp.mp z).2 q3)))]
  refine r_icmp_le_t (tgt := 42) dX8_character_37 (by decide) (Int32.not_lt.mp q3) ?_
  have hpt := hp.mpr ⟨q2, q3⟩
  have hlow := fPr_lt hb.1 hpt
  have e1 : chB xs k (nI q) = if ch xs k ≠ 92 then some (k + 1, ch xs k) else if fPr (ch xs (k + 1)) = false then none else some (k + 2, esc (ch xs (k + 1))) := by
    unfold chB
    rw [if_neg]
    rw [ec]
    intro z
    rcases z with z | z
    · rw [hpt] at z; cases z
    · exact q1 ((nI_eq (by omega) (by omega)).mp z)
  refine r_aload_n dX8_character_42 (by first | rfl | assumption) ?_
  refine r_aload_n dX8_character_43 (by first | rfl | assumption) ?_
  refine r8_get dX8_character_44 zf_X8_21 rfl ?_
  refine r_iload_n dX8_character_47 (by first | rfl | assumption) ?_
  refine r8_bald dX8_character_48 (by decide) (rfl) (by first | assumption | exact (show _ < 65536 by omega) | exact (show _ < 1100 by omega) | exact (show _ < 24 by omega) | exact (show _ < 2100 by omega) | exact (show _ < 6600 by omega) | exact (show _ < 1110 by omega)) ?_
  rw [hb.2]
  refine r8_put dX8_character_49 zf_X8_171 (Nat.le_of_ble_eq_true rfl) rfl (⟨rfl, rfl⟩) ?_
  refine r_aload_n dX8_character_52 (by first | rfl | assumption) ?_
  refine r8_get dX8_character_53 zf_X8_21 rfl ?_
  refine r_iload_n dX8_character_56 (by first | rfl | assumption) ?_
  refine r8_bald dX8_character_57 (by decide) (rfl) (by first | assumption | exact (show _ < 65536 by omega) | exact (show _ < 1100 by omega) | exact (show _ < 24 by omega) | exact (show _ < 2100 by omega) | exact (show _ < 6600 by omega) | exact (show _ < 1110 by omega)) ?_
  rw [show (rF r 46 (sb_b (xs.getD k 0))).2.1 168 k = sb_b (xs.getD k 0) from hb.2]
  refine r_bp (92) dX8_character_58 rfl ?_
  by_cases q4 : xs.getD k 0 = 92
  · refine r_icmp_eq_t (tgt := 67) dX8_character_60 (by decide) ((sb_is hb.1 (by decide)).mpr q4) ?_
    rw [if_neg (fun z => z (by rw [ec, q4]; rfl))] at e1
    have l103 : chB xs k (nI q) = none → ∀ L : Nat → Option Value, Ru d mX8_character 103 L [] (RS S (rF r 46 (sb_b (xs.getD k 0)))) (z_en mX8_character (fun v S1 => ∃ r', S1 = RS S r' ∧ eqx [46] [] r r' ∧ match chB xs k (nI q) with
        | none => v = some (.int (-1))
        | some z => v = some (.int (nI z.1)) ∧ r'.1 46 = z.2)) := by
      intro e L
      refine r_ic (-1) dX8_character_103 rfl ?_
      refine r_ireturn dX8_character_104 _ rfl rfl ⟨_, rfl, eqx.f (by decide), by rw [e]⟩
    refine r_iload_n dX8_character_67 (by first | rfl | assumption) ?_
    refine r_ic (1) dX8_character_68 rfl ?_
    refine r_iadd dX8_character_69 ?_
    rw [nI_1]
    refine r_aload_n dX8_character_70 (by first | rfl | assumption) ?_
    refine r8_get dX8_character_71 zf_X8_199 rfl ?_
    rw [show (rF r 46 (sb_b (xs.getD k 0))).1 18 = nI xs.length from h.1]
    by_cases q5 : xs.length ≤ k + 1
    · refine r_icmp_ge_t (tgt := 103) dX8_character_74 (by decide) (nI_le q5 (by omega)) ?_
      refine l103 ?_ _
      rw [e1, if_pos (by rw [ch_out q5]; rfl)]
    refine r_icmp_ge_f (tgt := 103) dX8_character_74 (by decide) (nI_ge (a := k + 1) (b := xs.length) (by omega) (by omega)) ?_
    have hb1 := h.at hl (k := k + 1) (by omega)
    have ec1 := ch_in (xs := xs) (k := k + 1) (by omega)
    have hp1 := fPr_ge hb1.1
    refine r_aload_n dX8_character_77 (by first | rfl | assumption) ?_
    refine r8_get dX8_character_78 zf_X8_21 rfl ?_
    refine r_iload_n dX8_character_81 (by first | rfl | assumption) ?_
    refine r_ic (1) dX8_character_82 rfl ?_
    refine r_iadd dX8_character_83 ?_
    rw [nI_1]
    refine r8_bald dX8_character_84 (by decide) (rfl) (by first | assumption | exact (show _ < 65536 by omega) | exact (show _ < 1100 by omega) | exact (show _ < 24 by omega) | exact (show _ < 2100 by omega) | exact (show _ < 6600 by omega) | exact (show _ < 1110 by omega)) ?_
    rw [show (rF r 46 (sb_b (xs.getD k 0))).2.1 168 (k + 1) = sb_b (xs.getD (k + 1) 0) from hb1.2]
    refine r_bp (32) dX8_character_85 rfl ?_
    by_cases q6 : sb_b (xs.getD (k + 1) 0) < 32
    · refine r_icmp_lt_t (tgt := 103) dX8_character_87 (by decide) (q6) ?_
      refine l103 ?_ _
      rw [e1, if_pos (by rw [ec1]; exact Bool.eq_false_iff.mpr (fun z => (hp1.mp z).1 q6))]
    refine r_icmp_lt_f (tgt := 103) dX8_character_87 (by decide) (q6) ?_
    refine r_aload_n dX8_character_90 (by first | rfl | assumption) ?_
    refine r8_get dX8_character_91 zf_X8_21 rfl ?_
    refine r_iload_n dX8_character_94 (by first | rfl | assumption) ?_
    refine r_ic (1) dX8_character_95 rfl ?_
    refine r_iadd dX8_character_96 ?_
    rw [nI_1]
    refine r8_bald dX8_character_97 (by decide) (rfl) (by first | assumption | exact (show _ < 65536 by omega) | exact (show _ < 1100 by omega) | exact (show _ < 24 by omega) | exact (show _ < 2100 by omega) | exact (show _ < 6600 by omega) | exact (show _ < 1110 by omega)) ?_
    rw [show (rF r 46 (sb_b (xs.getD k 0))).2.1 168 (k + 1) = sb_b (xs.getD (k + 1) 0) from hb1.2]
    refine r_bp (126) dX8_character_98 rfl ?_
    by_cases q7 : 126 < sb_b (xs.getD (k + 1) 0)
    · refine r_icmp_le_f (tgt := 105) dX8_character_100 (by decide) (Int32.not_le.mpr q7) ?_
      refine l103 ?_ _
      rw [e1, if_pos (by rw [ec1]; exact Bool.eq_false_iff.mpr (fun z => (hp1.mp z).2 q7))]
    refine r_icmp_le_t (tgt := 105) dX8_character_100 (by decide) (Int32.not_lt.mp q7) ?_
    have hpt1 := hp1.mpr ⟨q6, q7⟩
    have hlow1 := fPr_lt hb1.1 hpt1
    rw [if_neg (by rw [ec1, hpt1]; exact Bool.noConfusion)] at e1
    have l148 : ∀ (x : Int32) (L : Nat → Option Value), x = esc (ch xs (k + 1)) → L 1 = some (.int (nI k)) → Ru d mX8_character 148 L [.int x, .ref 165] (RS S (rF r 46 (sb_b (xs.getD k 0)))) (z_en mX8_character (fun v S1 => ∃ r', S1 = RS S r' ∧ eqx [46] [] r r' ∧ match chB xs k (nI q) with
        | none => v = some (.int (-1))
        | some z => v = some (.int (nI z.1)) ∧ r'.1 46 = z.2)) := by
      intro x L hx l1
      refine r8_put dX8_character_148 zf_X8_171 (Nat.le_of_ble_eq_true rfl) rfl (⟨rfl, rfl⟩) ?_
      refine r_iload_n dX8_character_151 (by first | rfl | assumption) ?_
      refine r_ic (2) dX8_character_152 rfl ?_
      refine r_iadd dX8_character_153 ?_
      rw [show (nI k + 2 : Int32) = nI (k + 2) from nI_add k 2]
      refine r_ireturn dX8_character_154 _ rfl rfl ⟨_, rfl, (eqx.f (by decide)).tr (eqx.f (by decide)), ?_⟩
      rw [e1]
      exact ⟨rfl, hx⟩
    refine r_aload_n dX8_character_105 (by first | rfl | assumption) ?_
    refine r8_get dX8_character_106 zf_X8_21 rfl ?_
    refine r_iload_n dX8_character_109 (by first | rfl | assumption) ?_
    refine r_ic (1) dX8_character_110 rfl ?_
    refine r_iadd dX8_character_111 ?_
    rw [nI_1]
    refine r8_bald dX8_character_112 (by decide) (rfl) (by first | assumption | exact (show _ < 65536 by omega) | exact (show _ < 1100 by omega) | exact (show _ < 24 by omega) | exact (show _ < 2100 by omega) | exact (show _ < 6600 by omega) | exact (show _ < 1110 by omega)) ?_
    rw [show (rF r 46 (sb_b (xs.getD k 0))).2.1 168 (k + 1) = sb_b (xs.getD (k + 1) 0) from hb1.2, hlow1.2, ← ec1]
    refine r_istore_n dX8_character_113 (by decide) (by first | exact z_c1_i (by first | rfl | assumption) | exact z_c1_r (by first | rfl | assumption) | exact z_c1_n (by first | rfl | assumption) | exact z_c1_c (by first | rfl | assumption) | exact z_c1_0 (by first | rfl | assumption)) ?_
    refine r_aload_n dX8_character_114 (by first | rfl | assumption) ?_
    refine r_iload_n dX8_character_115 (by first | rfl | assumption) ?_
    refine r_bp (110) dX8_character_116 rfl ?_
    unfold esc at l148
    by_cases q8 : ch xs (k + 1) = 110
    · refine r_icmp_ne_f (tgt := 126) dX8_character_118 (by decide) (q8) ?_
      refine r_bp (10) dX8_character_121 rfl ?_
      refine r_goto (tgt := 148) dX8_character_123 (by decide) ?_
      exact l148 _ _ (by rw [if_pos q8]) rfl
    refine r_icmp_ne_t (tgt := 126) dX8_character_118 (by decide) (q8) ?_
    refine r_iload_n dX8_character_126 (by first | rfl | assumption) ?_
    refine r_bp (116) dX8_character_127 rfl ?_
    by_cases q9 : ch xs (k + 1) = 116
    · refine r_icmp_ne_f (tgt := 137) dX8_character_129 (by decide) (q9) ?_
      refine r_bp (9) dX8_character_132 rfl ?_
      refine r_goto (tgt := 148) dX8_character_134 (by decide) ?_
      exact l148 _ _ (by rw [if_neg q8, if_pos q9]) rfl
    refine r_icmp_ne_t (tgt := 137) dX8_character_129 (by decide) (q9) ?_
    refine r_iload_n dX8_character_137 (by first | rfl | assumption) ?_
    refine r_bp (48) dX8_character_138 rfl ?_
    by_cases q10 : ch xs (k + 1) = 48
    · refine r_icmp_ne_f (tgt := 147) dX8_character_140 (by decide) (q10) ?_
      refine r_ic (0) dX8_character_143 rfl ?_
      refine r_goto (tgt := 148) dX8_character_144 (by decide) ?_
      exact l148 _ _ (by rw [if_neg q8, if_neg q9, if_pos q10]) rfl
    refine r_icmp_ne_t (tgt := 147) dX8_character_140 (by decide) (q10) ?_
    refine r_iload_n dX8_character_147 (by first | rfl | assumption) ?_
    exact l148 _ _ (by rw [if_neg q8, if_neg q9, if_neg q10]) rfl
  · refine r_icmp_eq_f (tgt := 67) dX8_character_60 (by decide) (fun z => q4 ((sb_is hb.1 (c := 92) (by decide)).mp z)) ?_
    rw [if_pos (show ch xs k ≠ 92 from fun z => q4 ((nI_eq (b := 92) (by omega) (by decide)).mp (ec.symm.trans z)))] at e1
    refine r_iload_n dX8_character_63 (by first | rfl | assumption) ?_
    refine r_ic (1) dX8_character_64 rfl ?_
    refine r_iadd dX8_character_65 ?_
    rw [nI_1]
    refine r_ireturn dX8_character_66 _ rfl rfl ⟨_, rfl, eqx.f (by decide), ?_⟩
    rw [e1]
    exact ⟨rfl, by rw [ec, ← hlow.2]; rfl⟩
end
