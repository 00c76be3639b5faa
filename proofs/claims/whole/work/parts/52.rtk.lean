/-! THE REFERENCE: a token -/
section
variable {d : Nat} {S : zS} {r : zR} {xs : List Nat} {ts : List zT} {k : Nat}
/-- behind a token -/
def rtP (S : zS) (r : zR) (xs : List Nat) (ts : List zT) (k : Nat) (v : Option Value) (S1 : zS) : Prop := ∃ r', S1 = RS S r' ∧ eqx [41, 46] [237, 238, 239, 240] r r' ∧ match tk xs k with
  | none => v = some (.int (-1))
  | some q => v = some (.int (nI q.2.1)) ∧ TK r' xs (ts ++ [(q.1, k, q.2.1, q.2.2)])
theorem TK.of {r1 : zR} {t : zT} {w : Int32} {v : Int64} (h : TK r xs ts) (hx : eqx [46] [] r r1) (hl : ts.length < 1030) (hm : tkm xs t w v) : eqx [41, 46] [237, 238, 239, 240] r (rT r1 ts.length w (nI t.2.1) (nI (t.2.2.1 - t.2.1)) v) ∧ TK (rT r1 ts.length w (nI t.2.1) (nI (t.2.2.1 - t.2.1)) v) xs (ts ++ [t]) := ⟨(hx.mono (by decide) (by decide)).tr (rT_x.mono (by decide) (by decide)), (h.mv hx (by decide) (by decide)).add hl hm⟩
theorem nmE_sk {i : Nat} (hi : i ≤ xs.length) : nmE xs i (skN xs i) = skN xs i := by
  have h1 := skN_le (xs := xs) hi
  have h2 := (skp_stop (p := fun j => fNm (nI (xs.getD j 0))) (xs.length - i) i).1
  exact skp_is _ _ h1.1 (by omega) (fun j a b => h2 j a b) (Or.inl (by omega))
set_option maxRecDepth 10000 in
set_option maxHeartbeats 4000000 in
theorem C_X8_readToken (h : LN r xs) (hl : xs.length ≤ 1024) (hk : k < xs.length) (hT : TK r xs ts) (hn : ts.length < 1030) (hp : fPr (ch xs k) = true) : Rc (d + 4) mX8_readToken [.ref 165, .int (nI k)] (RS S r) (rtP S r xs ts k) := by
  have hb := h.at hl hk
  have ec := ch_in (xs := xs) hk
  rw [ec] at hp
  have hlow := fPr_lt hb.1 hp
  have hb256 := hb.1
  generalize hbb : xs.getD k 0 = b at hb hlow hp ec hb256
  refine Rc.of ?_
  refine r_aload_n dX8_readToken_0 (by first | rfl | assumption) ?_
  refine r8_get dX8_readToken_1 zf_X8_21 rfl ?_
  refine r_iload_n dX8_readToken_4 (by first | rfl | assumption) ?_
  refine r8_bald dX8_readToken_5 (by decide) (rfl) (by first | assumption | exact (show _ < 65536 by omega) | exact (show _ < 1100 by omega) | exact (show _ < 24 by omega) | exact (show _ < 2100 by omega) | exact (show _ < 6600 by omega) | exact (show _ < 1110 by omega)) ?_
  rw [hb.2]
  refine r_istore_n dX8_readToken_6 (by decide) (by first | exact z_c1_i (by first | rfl | assumption) | exact z_c1_r (by first | rfl | assumption) | exact z_c1_n (by first | rfl | assumption) | exact z_c1_c (by first | rfl | assumption) | exact z_c1_0 (by first | rfl | assumption)) ?_
  refine r_iload_n dX8_readToken_7 (by first | rfl | assumption) ?_
  refine r_callS1 dX8_readToken_8 zm_X8_114 (Nat.le_of_ble_eq_true rfl) (Nat.le_of_ble_eq_true rfl) (C_X8_isDigit) (fun u S9 hv => ?_)
  obtain ⟨rfl, rfl⟩ := hv
  rw [(sbx _ hb256).2.1, ← ec]
  cases hdg : fDg (ch xs k) with
  | true =>
    refine r_if_eq_f (tgt := 20) dX8_readToken_11 (by decide) (show ¬ (1 : Int32) = 0 by decide) ?_
    refine r_aload_n dX8_readToken_14 (by first | rfl | assumption) ?_
    refine r_iload_n dX8_readToken_15 (by first | rfl | assumption) ?_
    refine r_callV1 dX8_readToken_16 zm_X8_232 RS_o rfl (Nat.le_of_ble_eq_true rfl) (Nat.le_of_ble_eq_true rfl) (C_X8_numberToken h hl hk hT.1 (by omega)) (fun v S9 hv => ?_)
    rcases hv with ⟨q1, rfl, rfl⟩ | ⟨q1, rfl, rfl⟩
    · have e : tk xs k = some (2, (num xs k).1, some (num xs k).2.1) := by unfold tk; rw [if_pos hdg, if_pos q1]
      have hm := hT.of (t := (2, k, (num xs k).1, some (num xs k).2.1)) (w := 2) (v := (num xs k).2.1) (eqx.rf (r := r)) hn (Or.inr (Or.inl ⟨rfl, rfl, rfl⟩))
      refine r_ireturn dX8_readToken_19 _ rfl rfl ⟨_, rfl, hm.1, by rw [e]; exact ⟨rfl, hm.2⟩⟩
    · have e : tk xs k = none := by unfold tk; rw [if_pos hdg, if_neg (by rw [q1]; exact Bool.false_ne_true)]
      refine r_ireturn dX8_readToken_19 _ rfl rfl ⟨r, rfl, eqx.rf, by rw [e]⟩
  | false =>
  refine r_if_eq_t (tgt := 20) dX8_readToken_11 (by decide) (rfl) ?_
  have t1 : ∀ {α : Sort 1} (x y : α), (if fDg (ch xs k) = true then x else y) = y := fun x y => if_neg (by rw [hdg]; exact Bool.false_ne_true)
  refine r_iload_n dX8_readToken_20 (by first | rfl | assumption) ?_
  refine r_callS1 dX8_readToken_21 zm_X8_110 (Nat.le_of_ble_eq_true rfl) (Nat.le_of_ble_eq_true rfl) (C_X8_isLetter) (fun u S9 hv => ?_)
  obtain ⟨rfl, rfl⟩ := hv
  rw [(sbx _ hb256).2.2.1, ← ec]
  have hnm : fNm (ch xs k) = fLt (ch xs k) := by unfold fNm; rw [hdg, Bool.or_false]
  cases hlt : fLt (ch xs k) with
  | true =>
    rw [hlt] at hnm
    refine r_if_eq_f (tgt := 85) dX8_readToken_24 (by decide) (show ¬ (1 : Int32) = 0 by decide) ?_
    have hsk := skN_le (xs := xs) (i := k) (by omega)
    have fin : ∀ (L : Nat → Option Value), L 0 = some (.ref 165) → L 1 = some (.int (nI k)) → L 3 = some (.int (nI (skN xs k))) → Ru (d + 4) mX8_readToken 55 L [] (RS S r) (z_en mX8_readToken (rtP S r xs ts k)) := by
      intro L l0 l1 l3
      refine r_aload_n dX8_readToken_55 (by first | rfl | assumption) ?_
      refine r_ic (1) dX8_readToken_56 rfl ?_
      refine r_iload_n dX8_readToken_57 (by first | rfl | assumption) ?_
      refine r_iload_n dX8_readToken_58 (by first | rfl | assumption) ?_
      refine r_aload_n dX8_readToken_59 (by first | rfl | assumption) ?_
      refine r8_get dX8_readToken_60 zf_X8_21 rfl ?_
      refine r_iload_n dX8_readToken_63 (by first | rfl | assumption) ?_
      refine r_iload_n dX8_readToken_64 (by first | rfl | assumption) ?_
      refine r_callS3 dX8_readToken_65 zm_X8_152 (Nat.le_of_ble_eq_true rfl) (Nat.le_of_ble_eq_true rfl) (C_X8_packed (c := 168) (xs := xs) (Or.inr rfl) (fun j hj => h.at hl hj) (show xs.length ≤ 1100 by omega) hsk.1 hsk.2) (fun u S9 hv => ?_)
      obtain ⟨rfl, rfl⟩ := hv
      rw [nmE_sk (by omega)]
      refine r_callV4 dX8_readToken_68 zm_X8_229 RS_o rfl (Nat.le_of_ble_eq_true rfl) (Nat.le_of_ble_eq_true rfl) (C_X8_token hT.1 (by omega) hsk.1) (fun u S9 hv => ?_)
      obtain ⟨rfl, rfl⟩ := hv
      have hm := hT.of (t := (1, k, skN xs k, none)) (w := 1) (v := pkV (seg xs k (skN xs k))) (eqx.rf (r := r)) hn (Or.inl ⟨rfl, rfl, rfl⟩)
      refine r_iload_n dX8_readToken_71 (by first | rfl | assumption) ?_
      refine r_iload_n dX8_readToken_72 (by first | rfl | assumption) ?_
      refine r_isub dX8_readToken_73 ?_
      rw [nI_sub hsk.1]
      refine r_bp (63) dX8_readToken_74 rfl ?_
      by_cases q : skN xs k - k ≤ 63
      · refine r_icmp_le_t (tgt := 83) dX8_readToken_76 (by decide) (nI_le (b := 63) q (by decide)) ?_
        refine r_iload_n dX8_readToken_83 (by first | rfl | assumption) ?_
        have e : tk xs k = some (1, skN xs k, none) := by unfold tk; rw [t1, if_pos hnm, if_pos q]
        refine r_ireturn dX8_readToken_84 _ rfl rfl ⟨_, rfl, hm.1, by rw [e]; exact ⟨rfl, hm.2⟩⟩
      · refine r_icmp_le_f (tgt := 83) dX8_readToken_76 (by decide) (nI_ge (a := 63) (by omega) (by omega)) ?_
        refine r_ic (-1) dX8_readToken_79 rfl ?_
        refine r_goto (tgt := 84) dX8_readToken_80 (by decide) ?_
        have e : tk xs k = none := by unfold tk; rw [t1, if_pos hnm, if_neg q]
        refine r_ireturn dX8_readToken_84 _ rfl rfl ⟨_, rfl, hm.1, by rw [e]⟩
    have loop : ∀ (m e : Nat) (L : Nat → Option Value), xs.length - e = m → e ≤ xs.length → skp (fun j => fNm (nI (xs.getD j 0))) m e = skN xs k → L 0 = some (.ref 165) → L 1 = some (.int (nI k)) → L 2 = some (.int (sb_b b)) → L 3 = some (.int (nI e)) → Ru (d + 4) mX8_readToken 29 L [] (RS S r) (z_en mX8_readToken (rtP S r xs ts k)) := by
      intro m
      induction m with
      | zero =>
        intro e L hm he hs l0 l1 l2 l3
        have hs : e = skN xs k := hs
        refine r_iload_n dX8_readToken_29 (by first | rfl | assumption) ?_
        refine r_aload_n dX8_readToken_30 (by first | rfl | assumption) ?_
        refine r8_get dX8_readToken_31 zf_X8_199 rfl ?_
        rw [h.1]
        refine r_icmp_ge_t (tgt := 55) dX8_readToken_34 (by decide) (nI_le (a := xs.length) (b := e) (by omega) (by omega)) ?_
        exact fin L l0 l1 (by rw [← hs]; exact l3)
      | succ m ih =>
        intro e L hm he hs l0 l1 l2 l3
        have hbe := h.at hl (k := e) (by omega)
        have hs2 : (if fNm (nI (xs.getD e 0)) = true then skp (fun j => fNm (nI (xs.getD j 0))) m (e + 1) else e) = skN xs k := hs
        refine r_iload_n dX8_readToken_29 (by first | rfl | assumption) ?_
        refine r_aload_n dX8_readToken_30 (by first | rfl | assumption) ?_
        refine r8_get dX8_readToken_31 zf_X8_199 rfl ?_
        rw [h.1]
        refine r_icmp_ge_f (tgt := 55) dX8_readToken_34 (by decide) (nI_ge (a := e) (b := xs.length) (by omega) (by omega)) ?_
        refine r_aload_n dX8_readToken_37 (by first | rfl | assumption) ?_
        refine r8_get dX8_readToken_38 zf_X8_21 rfl ?_
        refine r_iload_n dX8_readToken_41 (by first | rfl | assumption) ?_
        refine r8_bald dX8_readToken_42 (by decide) (rfl) (by first | assumption | exact (show _ < 65536 by omega) | exact (show _ < 1100 by omega) | exact (show _ < 24 by omega) | exact (show _ < 2100 by omega) | exact (show _ < 6600 by omega) | exact (show _ < 1110 by omega)) ?_
        rw [hbe.2]
        refine r_callS1 dX8_readToken_43 zm_X8_117 (Nat.le_of_ble_eq_true rfl) (Nat.le_of_ble_eq_true rfl) (C_X8_isNamed) (fun u S9 hv => ?_)
        obtain ⟨rfl, rfl⟩ := hv
        rw [(sbx _ hbe.1).1]
        cases hq : fNm (nI (xs.getD e 0)) with
        | true =>
          rw [if_pos hq] at hs2
          refine r_if_eq_f (tgt := 55) dX8_readToken_46 (by decide) (show ¬ (1 : Int32) = 0 by decide) ?_
          refine r_inc (nI (e + 1)) dX8_readToken_49 (by first | rfl | assumption) (by decide) (by first | exact z_c1_i (by first | rfl | assumption) | exact z_c1_r (by first | rfl | assumption) | exact z_c1_n (by first | rfl | assumption) | exact z_c1_c (by first | rfl | assumption) | exact z_c1_0 (by first | rfl | assumption)) (nI_1 _) ?_
          refine r_goto (tgt := 29) dX8_readToken_52 (by decide) ?_
          exact ih (e + 1) _ (by omega) (by omega) hs2 l0 l1 l2 rfl
        | false =>
          rw [if_neg (by rw [hq]; exact Bool.false_ne_true)] at hs2
          refine r_if_eq_t (tgt := 55) dX8_readToken_46 (by decide) (rfl) ?_
          exact fin L l0 l1 (by rw [← hs2]; exact l3)
    refine r_iload_n dX8_readToken_27 (by first | rfl | assumption) ?_
    refine r_istore_n dX8_readToken_28 (by decide) (by first | exact z_c1_i (by first | rfl | assumption) | exact z_c1_r (by first | rfl | assumption) | exact z_c1_n (by first | rfl | assumption) | exact z_c1_c (by first | rfl | assumption) | exact z_c1_0 (by first | rfl | assumption)) ?_
    exact loop _ k _ rfl (by omega) rfl rfl rfl rfl rfl
  | false =>
  rw [hlt] at hnm
  refine r_if_eq_t (tgt := 85) dX8_readToken_24 (by decide) (rfl) ?_
  have t2 : ∀ {α : Sort 1} (x y : α), (if fNm (ch xs k) = true then x else y) = y := fun x y => if_neg (by rw [hnm]; exact Bool.false_ne_true)
  refine r_iload_n dX8_readToken_85 (by first | rfl | assumption) ?_
  refine r_bp (39) dX8_readToken_86 rfl ?_
  by_cases q39 : b = 39
  · refine r_icmp_ne_f (tgt := 168) dX8_readToken_88 (by decide) ((sb_is hb256 (by decide)).mpr q39) ?_
    have e0 : tk xs k = match chB xs (k + 1) 39 with
        | none => none
        | some q => if ch xs q.1 = 39 ∧ fNm (ch xs (q.1 + 1)) = false then some (2, q.1 + 1, some q.2.toInt64) else none := by
      unfold tk
      rw [t1, t2, if_pos (by rw [ec, q39]; rfl)]
      rfl
    refine r_aload_n dX8_readToken_91 (by first | rfl | assumption) ?_
    refine r_iload_n dX8_readToken_92 (by first | rfl | assumption) ?_
    refine r_ic (1) dX8_readToken_93 rfl ?_
    refine r_iadd dX8_readToken_94 ?_
    rw [nI_1]
    refine r_bp (39) dX8_readToken_95 rfl ?_
    refine r_callV2 dX8_readToken_97 zm_X8_235 RS_o rfl (Nat.le_of_ble_eq_true rfl) (Nat.le_of_ble_eq_true rfl) (C_X8_character (q := 39) h hl (by omega) (by decide)) (fun v S9 hv => ?_)
    obtain ⟨r1, rfl, hx1, hv⟩ := hv
    have hL1 : LN r1 xs := h.mv hx1 (by decide) (by decide)
    have hT1 : TK r1 xs ts := hT.mv hx1 (by decide) (by decide)
    have l148 : tk xs k = none → ∀ L : Nat → Option Value, Ru (d + 4) mX8_readToken 148 L [] (RS S r1) (z_en mX8_readToken (rtP S r xs ts k)) := by
      intro e L
      refine r_ic (-1) dX8_readToken_148 rfl ?_
      refine r_ireturn dX8_readToken_149 _ rfl rfl ⟨r1, rfl, hx1.mono (by decide) (by decide), by rw [e]⟩
    cases hc : chB xs (k + 1) 39 with
    | none =>
      rw [hc] at e0
      rw [show nI 39 = 39 from rfl, hc] at hv
      have hv : v = some (.int (-1)) := hv
      subst hv
      refine r_istore_n dX8_readToken_100 (by decide) (by first | exact z_c1_i (by first | rfl | assumption) | exact z_c1_r (by first | rfl | assumption) | exact z_c1_n (by first | rfl | assumption) | exact z_c1_c (by first | rfl | assumption) | exact z_c1_0 (by first | rfl | assumption)) ?_
      refine r_iload_n dX8_readToken_101 (by first | rfl | assumption) ?_
      refine r_if_lt_t (tgt := 148) dX8_readToken_102 (by decide) (show (-1 : Int32) < 0 by decide) ?_
      exact l148 e0 _
    | some z =>
      rw [hc] at e0
      rw [show nI 39 = 39 from rfl, hc] at hv
      obtain ⟨rfl, hf46⟩ := hv
      have hz := chB_lt (j := z.1) (c := z.2) hc
      have e0 : tk xs k = if ch xs z.1 = 39 ∧ fNm (ch xs (z.1 + 1)) = false then some (2, z.1 + 1, some z.2.toInt64) else none := e0
      refine r_istore_n dX8_readToken_100 (by decide) (by first | exact z_c1_i (by first | rfl | assumption) | exact z_c1_r (by first | rfl | assumption) | exact z_c1_n (by first | rfl | assumption) | exact z_c1_c (by first | rfl | assumption) | exact z_c1_0 (by first | rfl | assumption)) ?_
      refine r_iload_n dX8_readToken_101 (by first | rfl | assumption) ?_
      refine r_if_lt_f (tgt := 148) dX8_readToken_102 (by decide) (fun w => absurd w (Int32.not_lt.mpr (show nI 0 ≤ nI z.1 from nI_le (Nat.zero_le _) (by omega)))) ?_
      refine r_iload_n dX8_readToken_105 (by first | rfl | assumption) ?_
      refine r_aload_n dX8_readToken_106 (by first | rfl | assumption) ?_
      refine r8_get dX8_readToken_107 zf_X8_199 rfl ?_
      rw [hL1.1]
      by_cases w1 : xs.length ≤ z.1
      · refine r_icmp_ge_t (tgt := 148) dX8_readToken_110 (by decide) (nI_le w1 (by omega)) ?_
        exact l148 (by rw [e0, if_neg (fun w => absurd w.1 (by rw [ch_out w1]; decide))]) _
      refine r_icmp_ge_f (tgt := 148) dX8_readToken_110 (by decide) (nI_ge (a := z.1) (b := xs.length) (by omega) (by omega)) ?_
      have hbz := hL1.at hl (k := z.1) (by omega)
      have ecz := ch_in (xs := xs) (k := z.1) (by omega)
      refine r_aload_n dX8_readToken_113 (by first | rfl | assumption) ?_
      refine r8_get dX8_readToken_114 zf_X8_21 rfl ?_
      refine r_iload_n dX8_readToken_117 (by first | rfl | assumption) ?_
      refine r8_bald dX8_readToken_118 (by decide) (rfl) (by first | assumption | exact (show _ < 65536 by omega) | exact (show _ < 1100 by omega) | exact (show _ < 24 by omega) | exact (show _ < 2100 by omega) | exact (show _ < 6600 by omega) | exact (show _ < 1110 by omega)) ?_
      rw [hbz.2]
      refine r_bp (39) dX8_readToken_119 rfl ?_
      by_cases w2 : xs.getD z.1 0 = 39
      · refine r_icmp_ne_f (tgt := 148) dX8_readToken_121 (by decide) ((sb_is hbz.1 (by decide)).mpr w2) ?_
        have w2' : ch xs z.1 = 39 := by rw [ecz, w2]; rfl
        have l150 : fNm (ch xs (z.1 + 1)) = false → ∀ L : Nat → Option Value, L 0 = some (.ref 165) → L 1 = some (.int (nI k)) → L 3 = some (.int (nI z.1)) → Ru (d + 4) mX8_readToken 150 L [] (RS S r1) (z_en mX8_readToken (rtP S r xs ts k)) := by
          intro w3 L l0 l1 l3
          rw [if_pos ⟨w2', w3⟩] at e0
          have hm := hT.of (t := (2, k, z.1 + 1, some z.2.toInt64)) (w := 2) (v := z.2.toInt64) hx1 hn (Or.inr (Or.inl ⟨rfl, rfl, rfl⟩))
          refine r_aload_n dX8_readToken_150 (by first | rfl | assumption) ?_
          refine r_ic (2) dX8_readToken_151 rfl ?_
          refine r_iload_n dX8_readToken_152 (by first | rfl | assumption) ?_
          refine r_iload_n dX8_readToken_153 (by first | rfl | assumption) ?_
          refine r_ic (1) dX8_readToken_154 rfl ?_
          refine r_iadd dX8_readToken_155 ?_
          rw [nI_1]
          refine r_aload_n dX8_readToken_156 (by first | rfl | assumption) ?_
          refine r8_get dX8_readToken_157 zf_X8_171 rfl ?_
          rw [hf46]
          refine r_i2l dX8_readToken_160 ?_
          refine r_callV4 dX8_readToken_161 zm_X8_229 RS_o rfl (Nat.le_of_ble_eq_true rfl) (Nat.le_of_ble_eq_true rfl) (C_X8_token hT1.1 (by omega) (show k ≤ z.1 + 1 by omega)) (fun u S9 hv => ?_)
          obtain ⟨rfl, rfl⟩ := hv
          refine r_iload_n dX8_readToken_164 (by first | rfl | assumption) ?_
          refine r_ic (1) dX8_readToken_165 rfl ?_
          refine r_iadd dX8_readToken_166 ?_
          rw [nI_1]
          refine r_ireturn dX8_readToken_167 _ rfl rfl ⟨_, rfl, hm.1, by rw [e0]; exact ⟨rfl, hm.2⟩⟩
        refine r_iload_n dX8_readToken_124 (by first | rfl | assumption) ?_
        refine r_ic (1) dX8_readToken_125 rfl ?_
        refine r_iadd dX8_readToken_126 ?_
        rw [nI_1]
        refine r_aload_n dX8_readToken_127 (by first | rfl | assumption) ?_
        refine r8_get dX8_readToken_128 zf_X8_199 rfl ?_
        rw [hL1.1]
        by_cases w4 : xs.length ≤ z.1 + 1
        · refine r_icmp_ge_t (tgt := 150) dX8_readToken_131 (by decide) (nI_le w4 (by omega)) ?_
          exact l150 (by rw [ch_out w4]; rfl) _ rfl rfl rfl
        refine r_icmp_ge_f (tgt := 150) dX8_readToken_131 (by decide) (nI_ge (a := z.1 + 1) (b := xs.length) (by omega) (by omega)) ?_
        have hbz1 := hL1.at hl (k := z.1 + 1) (by omega)
        have ecz1 := ch_in (xs := xs) (k := z.1 + 1) (by omega)
        refine r_aload_n dX8_readToken_134 (by first | rfl | assumption) ?_
        refine r8_get dX8_readToken_135 zf_X8_21 rfl ?_
        refine r_iload_n dX8_readToken_138 (by first | rfl | assumption) ?_
        refine r_ic (1) dX8_readToken_139 rfl ?_
        refine r_iadd dX8_readToken_140 ?_
        rw [nI_1]
        refine r8_bald dX8_readToken_141 (by decide) (rfl) (by first | assumption | exact (show _ < 65536 by omega) | exact (show _ < 1100 by omega) | exact (show _ < 24 by omega) | exact (show _ < 2100 by omega) | exact (show _ < 6600 by omega) | exact (show _ < 1110 by omega)) ?_
        rw [hbz1.2]
        refine r_callS1 dX8_readToken_142 zm_X8_117 (Nat.le_of_ble_eq_true rfl) (Nat.le_of_ble_eq_true rfl) (C_X8_isNamed) (fun u S9 hv => ?_)
        obtain ⟨rfl, rfl⟩ := hv
        rw [(sbx _ hbz1.1).1, ← ecz1]
        cases w5 : fNm (ch xs (z.1 + 1)) with
        | true =>
          refine r_if_eq_f (tgt := 150) dX8_readToken_145 (by decide) (show ¬ (1 : Int32) = 0 by decide) ?_
          exact l148 (by rw [e0, if_neg (fun w => by rw [w5] at w; cases w.2)]) _
        | false =>
          refine r_if_eq_t (tgt := 150) dX8_readToken_145 (by decide) (rfl) ?_
          exact l150 w5 _ rfl rfl rfl
      · refine r_icmp_ne_t (tgt := 148) dX8_readToken_121 (by decide) (fun w => w2 ((sb_is hbz.1 (c := 39) (by decide)).mp w)) ?_
        exact l148 (by rw [e0, if_neg (fun w => w2 ((nI_eq (b := 39) (by omega) (by decide)).mp (ecz.symm.trans w.1)))]) _
  refine r_icmp_ne_t (tgt := 168) dX8_readToken_88 (by decide) (fun z => q39 ((sb_is hb256 (c := 39) (by decide)).mp z)) ?_
  have t3 : ∀ {α : Sort 1} (x y : α), (if ch xs k = 39 then x else y) = y := fun x y => if_neg (fun z => q39 ((nI_eq (b := 39) (by omega) (by decide)).mp (ec.symm.trans z)))
  refine r_iload_n dX8_readToken_168 (by first | rfl | assumption) ?_
  refine r_bp (34) dX8_readToken_169 rfl ?_
  by_cases q34 : b = 34
  · refine r_icmp_ne_f (tgt := 240) dX8_readToken_171 (by decide) ((sb_is hb256 (by decide)).mpr q34) ?_
    have e0 : tk xs k = match txF xs xs.length (k + 1) with
        | none => none
        | some j => some (3, j, none) := by
      unfold tk
      rw [t1, t2, t3, if_pos (by rw [ec, q34]; rfl)]
      rfl
    have loop : ∀ (m e : Nat) (r1 : zR) (L : Nat → Option Value), xs.length - e + 1 ≤ m → e ≤ xs.length → k < e → eqx [46] [] r r1 → txF xs m e = txF xs xs.length (k + 1) → L 0 = some (.ref 165) → L 1 = some (.int (nI k)) → L 2 = some (.int (sb_b b)) → L 3 = some (.int (nI e)) → Ru (d + 4) mX8_readToken 178 L [] (RS S r1) (z_en mX8_readToken (rtP S r xs ts k)) := by
      intro m
      induction m with
      | zero => intro e r1 L hm; omega
      | succ m ih =>
        intro e r1 L hm he hke hx1 hs l0 l1 l2 l3
        have hL1 : LN r1 xs := h.mv hx1 (by decide) (by decide)
        have hT1 : TK r1 xs ts := hT.mv hx1 (by decide) (by decide)
        rw [txF_s] at hs
        refine r_iload_n dX8_readToken_178 (by first | rfl | assumption) ?_
        refine r_if_lt_f (tgt := 212) dX8_readToken_179 (by decide) (fun w => absurd w (Int32.not_lt.mpr (show nI 0 ≤ nI e from nI_le (Nat.zero_le _) (by omega)))) ?_
        refine r_iload_n dX8_readToken_182 (by first | rfl | assumption) ?_
        refine r_aload_n dX8_readToken_183 (by first | rfl | assumption) ?_
        refine r8_get dX8_readToken_184 zf_X8_199 rfl ?_
        rw [hL1.1]
        by_cases w1 : xs.length ≤ e
        · refine r_icmp_ge_t (tgt := 212) dX8_readToken_187 (by decide) (nI_le w1 (by omega)) ?_
          have hc : chB xs e 34 = none := by
            unfold chB
            rw [if_pos (Or.inl (by rw [ch_out w1]; rfl))]
          rw [if_neg (by rw [ch_out w1]; decide), hc] at hs
          have hs : none = txF xs xs.length (k + 1) := hs
          refine r_iload_n dX8_readToken_212 (by first | rfl | assumption) ?_
          refine r_if_lt_f (tgt := 224) dX8_readToken_213 (by decide) (fun w => absurd w (Int32.not_lt.mpr (show nI 0 ≤ nI e from nI_le (Nat.zero_le _) (by omega)))) ?_
          refine r_iload_n dX8_readToken_216 (by first | rfl | assumption) ?_
          refine r_aload_n dX8_readToken_217 (by first | rfl | assumption) ?_
          refine r8_get dX8_readToken_218 zf_X8_199 rfl ?_
          rw [hL1.1]
          refine r_icmp_lt_f (tgt := 226) dX8_readToken_221 (by decide) (fun w => absurd w (Int32.not_lt.mpr (nI_le w1 (by omega)))) ?_
          refine r_ic (-1) dX8_readToken_224 rfl ?_
          refine r_ireturn dX8_readToken_225 _ rfl rfl ⟨r1, rfl, hx1.mono (by decide) (by decide), by rw [e0, ← hs]⟩
        refine r_icmp_ge_f (tgt := 212) dX8_readToken_187 (by decide) (nI_ge (a := e) (b := xs.length) (by omega) (by omega)) ?_
        have hbe := hL1.at hl (k := e) (by omega)
        have ece := ch_in (xs := xs) (k := e) (by omega)
        refine r_aload_n dX8_readToken_190 (by first | rfl | assumption) ?_
        refine r8_get dX8_readToken_191 zf_X8_21 rfl ?_
        refine r_iload_n dX8_readToken_194 (by first | rfl | assumption) ?_
        refine r8_bald dX8_readToken_195 (by decide) (rfl) (by first | assumption | exact (show _ < 65536 by omega) | exact (show _ < 1100 by omega) | exact (show _ < 24 by omega) | exact (show _ < 2100 by omega) | exact (show _ < 6600 by omega) | exact (show _ < 1110 by omega)) ?_
        rw [hbe.2]
        refine r_bp (34) dX8_readToken_196 rfl ?_
        by_cases w2 : xs.getD e 0 = 34
        · refine r_icmp_eq_t (tgt := 212) dX8_readToken_198 (by decide) ((sb_is hbe.1 (by decide)).mpr w2) ?_
          rw [if_pos (by rw [ece, w2]; rfl)] at hs
          rw [← hs] at e0
          have e0 : tk xs k = some (3, e + 1, none) := e0
          have hm := hT.of (t := (3, k, e + 1, none)) (w := 3) (v := 0) hx1 hn (Or.inr (Or.inr (Or.inl ⟨rfl, rfl⟩)))
          refine r_iload_n dX8_readToken_212 (by first | rfl | assumption) ?_
          refine r_if_lt_f (tgt := 224) dX8_readToken_213 (by decide) (fun w => absurd w (Int32.not_lt.mpr (show nI 0 ≤ nI e from nI_le (Nat.zero_le _) (by omega)))) ?_
          refine r_iload_n dX8_readToken_216 (by first | rfl | assumption) ?_
          refine r_aload_n dX8_readToken_217 (by first | rfl | assumption) ?_
          refine r8_get dX8_readToken_218 zf_X8_199 rfl ?_
          rw [hL1.1]
          refine r_icmp_lt_t (tgt := 226) dX8_readToken_221 (by decide) (nI_lt (a := e) (b := xs.length) (by omega) (by omega)) ?_
          refine r_aload_n dX8_readToken_226 (by first | rfl | assumption) ?_
          refine r_ic (3) dX8_readToken_227 rfl ?_
          refine r_iload_n dX8_readToken_228 (by first | rfl | assumption) ?_
          refine r_iload_n dX8_readToken_229 (by first | rfl | assumption) ?_
          refine r_ic (1) dX8_readToken_230 rfl ?_
          refine r_iadd dX8_readToken_231 ?_
          rw [nI_1]
          refine r_lc (0) dX8_readToken_232 rfl ?_
          refine r_callV4 dX8_readToken_233 zm_X8_229 RS_o rfl (Nat.le_of_ble_eq_true rfl) (Nat.le_of_ble_eq_true rfl) (C_X8_token hT1.1 (by omega) (show k ≤ e + 1 by omega)) (fun u S9 hv => ?_)
          obtain ⟨rfl, rfl⟩ := hv
          refine r_iload_n dX8_readToken_236 (by first | rfl | assumption) ?_
          refine r_ic (1) dX8_readToken_237 rfl ?_
          refine r_iadd dX8_readToken_238 ?_
          rw [nI_1]
          refine r_ireturn dX8_readToken_239 _ rfl rfl ⟨_, rfl, hm.1, by rw [e0]; exact ⟨rfl, hm.2⟩⟩
        · refine r_icmp_eq_f (tgt := 212) dX8_readToken_198 (by decide) (fun w => w2 ((sb_is hbe.1 (c := 34) (by decide)).mp w)) ?_
          rw [if_neg (show ¬ ch xs e = 34 from fun w => w2 ((nI_eq (b := 34) (by omega) (by decide)).mp (ece.symm.trans w)))] at hs
          refine r_aload_n dX8_readToken_201 (by first | rfl | assumption) ?_
          refine r_iload_n dX8_readToken_202 (by first | rfl | assumption) ?_
          refine r_bp (34) dX8_readToken_203 rfl ?_
          refine r_callV2 dX8_readToken_205 zm_X8_235 RS_o rfl (Nat.le_of_ble_eq_true rfl) (Nat.le_of_ble_eq_true rfl) (C_X8_character (q := 34) hL1 hl (by omega) (by decide)) (fun v S9 hv => ?_)
          obtain ⟨r2, rfl, hx2, hv⟩ := hv
          rw [show nI 34 = 34 from rfl] at hv
          cases hc : chB xs e 34 with
          | none =>
            rw [hc] at hv hs
            have hv : v = some (.int (-1)) := hv
            subst hv
            have hs : none = txF xs xs.length (k + 1) := hs
            refine r_istore_n dX8_readToken_208 (by decide) (by first | exact z_c1_i (by first | rfl | assumption) | exact z_c1_r (by first | rfl | assumption) | exact z_c1_n (by first | rfl | assumption) | exact z_c1_c (by first | rfl | assumption) | exact z_c1_0 (by first | rfl | assumption)) ?_
            refine r_goto (tgt := 178) dX8_readToken_209 (by decide) ?_
            refine r_iload_n dX8_readToken_178 (by first | rfl | assumption) ?_
            refine r_if_lt_t (tgt := 212) dX8_readToken_179 (by decide) (show (-1 : Int32) < 0 by decide) ?_
            refine r_iload_n dX8_readToken_212 (by first | rfl | assumption) ?_
            refine r_if_lt_t (tgt := 224) dX8_readToken_213 (by decide) (show (-1 : Int32) < 0 by decide) ?_
            refine r_ic (-1) dX8_readToken_224 rfl ?_
            refine r_ireturn dX8_readToken_225 _ rfl rfl ⟨r2, rfl, (hx1.tr hx2).mono (by decide) (by decide), by rw [e0, ← hs]⟩
          | some z =>
            rw [hc] at hv hs
            obtain ⟨rfl, -⟩ := hv
            have hz := chB_lt (j := z.1) (c := z.2) hc
            refine r_istore_n dX8_readToken_208 (by decide) (by first | exact z_c1_i (by first | rfl | assumption) | exact z_c1_r (by first | rfl | assumption) | exact z_c1_n (by first | rfl | assumption) | exact z_c1_c (by first | rfl | assumption) | exact z_c1_0 (by first | rfl | assumption)) ?_
            refine r_goto (tgt := 178) dX8_readToken_209 (by decide) ?_
            exact ih z.1 r2 _ (by omega) hz.2.2 (by omega) (hx1.tr hx2) hs l0 l1 l2 rfl
    refine r_iload_n dX8_readToken_174 (by first | rfl | assumption) ?_
    refine r_ic (1) dX8_readToken_175 rfl ?_
    refine r_iadd dX8_readToken_176 ?_
    rw [nI_1]
    refine r_istore_n dX8_readToken_177 (by decide) (by first | exact z_c1_i (by first | rfl | assumption) | exact z_c1_r (by first | rfl | assumption) | exact z_c1_n (by first | rfl | assumption) | exact z_c1_c (by first | rfl | assumption) | exact z_c1_0 (by first | rfl | assumption)) ?_
    exact loop _ (k + 1) r _ (by omega) (by omega) (by omega) eqx.rf rfl rfl rfl rfl rfl
  refine r_icmp_ne_t (tgt := 240) dX8_readToken_171 (by decide) (fun z => q34 ((sb_is hb256 (c := 34) (by decide)).mp z)) ?_
  have t4 : ∀ {α : Sort 1} (x y : α), (if ch xs k = 34 then x else y) = y := fun x y => if_neg (fun z => q34 ((nI_eq (b := 34) (by omega) (by decide)).mp (ec.symm.trans z)))
  have e0 : tk xs k = match sgn xs k b with
      | none => none
      | some j => some (ch xs k, j, none) := by
    unfold tk
    rw [t1, t2, t3, t4, hbb]
    rfl
  -- a sign of one byte or of two
  have l394 : ∀ (two : Bool) (L : Nat → Option Value), (two = true → (b = 60 ∨ b = 62) ∧ sgn xs k b = some (k + 2)) → (two = false → b ∈ sgL ∧ sgn xs k b = some (k + 1)) → L 0 = some (.ref 165) → L 1 = some (.int (nI k)) → L 2 = some (.int (sb_b b)) → L 3 = some (.int (bI two)) → Ru (d + 4) mX8_readToken 394 L [] (RS S r) (z_en mX8_readToken (rtP S r xs ts k)) := by
    intro two L h1 h2 l0 l1 l2 l3
    have l434 : ∀ (v : Int64) (en : Nat), sgn xs k b = some en → k ≤ en → en = (if two = true then k + 2 else k + 1) → 32 < ch xs k → (v = if ch xs k = 60 then 256 else if ch xs k = 62 then 257 else (ch xs k).toInt64) → Ru (d + 4) mX8_readToken 434 L [.long v, .int (nI en), .int (nI k), .int 4, .ref 165] (RS S r) (z_en mX8_readToken (rtP S r xs ts k)) := by
      intro v en hsg hke hen h32 hv
      rw [hsg] at e0
      have e0 : tk xs k = some (ch xs k, en, none) := e0
      have hm := hT.of (t := (ch xs k, k, en, none)) (w := 4) (v := v) (eqx.rf (r := r)) hn (Or.inr (Or.inr (Or.inr ⟨h32, rfl, hv⟩)))
      refine r_callV4 dX8_readToken_434 zm_X8_229 RS_o rfl (Nat.le_of_ble_eq_true rfl) (Nat.le_of_ble_eq_true rfl) (C_X8_token hT.1 (by omega) hke) (fun u S9 hv => ?_)
      obtain ⟨rfl, rfl⟩ := hv
      refine r_iload_n dX8_readToken_437 (by first | rfl | assumption) ?_
      cases two with
      | true =>
        refine r_if_eq_f (tgt := 447) dX8_readToken_438 (by decide) (show ¬ (1 : Int32) = 0 by decide) ?_
        have hen : en = k + 2 := hen
        subst hen
        refine r_iload_n dX8_readToken_441 (by first | rfl | assumption) ?_
        refine r_ic (2) dX8_readToken_442 rfl ?_
        refine r_iadd dX8_readToken_443 ?_
        rw [show (nI k + 2 : Int32) = nI (k + 2) from nI_add k 2]
        refine r_goto (tgt := 450) dX8_readToken_444 (by decide) ?_
        refine r_ireturn dX8_readToken_450 _ rfl rfl ⟨_, rfl, hm.1, by rw [e0]; exact ⟨rfl, hm.2⟩⟩
      | false =>
        refine r_if_eq_t (tgt := 447) dX8_readToken_438 (by decide) (rfl) ?_
        have hen : en = k + 1 := hen
        subst hen
        refine r_iload_n dX8_readToken_447 (by first | rfl | assumption) ?_
        refine r_ic (1) dX8_readToken_448 rfl ?_
        refine r_iadd dX8_readToken_449 ?_
        rw [nI_1]
        refine r_ireturn dX8_readToken_450 _ rfl rfl ⟨_, rfl, hm.1, by rw [e0]; exact ⟨rfl, hm.2⟩⟩
    refine r_aload_n dX8_readToken_394 (by first | rfl | assumption) ?_
    refine r_ic (4) dX8_readToken_395 rfl ?_
    refine r_iload_n dX8_readToken_396 (by first | rfl | assumption) ?_
    refine r_iload_n dX8_readToken_397 (by first | rfl | assumption) ?_
    cases two with
    | true =>
      obtain ⟨h3, h4⟩ := h1 rfl
      refine r_if_eq_f (tgt := 407) dX8_readToken_398 (by decide) (show ¬ (1 : Int32) = 0 by decide) ?_
      refine r_iload_n dX8_readToken_401 (by first | rfl | assumption) ?_
      refine r_ic (2) dX8_readToken_402 rfl ?_
      refine r_iadd dX8_readToken_403 ?_
      rw [show (nI k + 2 : Int32) = nI (k + 2) from nI_add k 2]
      refine r_goto (tgt := 410) dX8_readToken_404 (by decide) ?_
      refine r_iload_n dX8_readToken_410 (by first | rfl | assumption) ?_
      refine r_if_eq_f (tgt := 432) dX8_readToken_411 (by decide) (show ¬ (1 : Int32) = 0 by decide) ?_
      refine r_iload_n dX8_readToken_414 (by first | rfl | assumption) ?_
      refine r_bp (60) dX8_readToken_415 rfl ?_
      rcases h3 with h3 | h3
      · refine r_icmp_ne_f (tgt := 426) dX8_readToken_417 (by decide) (by rw [h3]; rfl) ?_
        refine r_ldc2 dX8_readToken_420 zk_X8_238 ?_
        refine r_goto (tgt := 434) dX8_readToken_423 (by decide) ?_
        refine l434 _ (k + 2) h4 (by omega) rfl ?_ ?_
        · rw [ec, h3]; decide
        · rw [ec, h3]; rfl
      · refine r_icmp_ne_t (tgt := 426) dX8_readToken_417 (by decide) (by rw [h3]; decide) ?_
        refine r_ldc2 dX8_readToken_426 zk_X8_240 ?_
        refine r_goto (tgt := 434) dX8_readToken_429 (by decide) ?_
        refine l434 _ (k + 2) h4 (by omega) rfl ?_ ?_
        · rw [ec, h3]; decide
        · rw [ec, h3]; rfl
    | false =>
      obtain ⟨h3, h4⟩ := h2 rfl
      refine r_if_eq_t (tgt := 407) dX8_readToken_398 (by decide) (rfl) ?_
      refine r_iload_n dX8_readToken_407 (by first | rfl | assumption) ?_
      refine r_ic (1) dX8_readToken_408 rfl ?_
      refine r_iadd dX8_readToken_409 ?_
      rw [nI_1]
      refine r_iload_n dX8_readToken_410 (by first | rfl | assumption) ?_
      refine r_if_eq_t (tgt := 432) dX8_readToken_411 (by decide) (rfl) ?_
      refine r_iload_n dX8_readToken_432 (by first | rfl | assumption) ?_
      refine r_i2l dX8_readToken_433 ?_
      rw [hlow.2, ← ec]
      have hs2 : ∀ b, b ∈ sgL → 32 < nI b ∧ ¬ nI b = 60 ∧ ¬ nI b = 62 := by decide
      have hs3 := hs2 b h3
      rw [← ec] at hs3
      exact l434 _ (k + 1) h4 (by omega) rfl hs3.1 (by rw [if_neg hs3.2.1, if_neg hs3.2.2])
  have l383 : ∀ (one two : Bool) (L : Nat → Option Value), (one = true ↔ b ∈ sgL) → (two = true ↔ (b = 60 ∨ b = 62) ∧ ch xs (k + 1) = nI b) → L 0 = some (.ref 165) → L 1 = some (.int (nI k)) → L 2 = some (.int (sb_b b)) → L 3 = some (.int (bI two)) → L 4 = some (.int (bI one)) → Ru (d + 4) mX8_readToken 383 L [] (RS S r) (z_en mX8_readToken (rtP S r xs ts k)) := by
    intro one two L h1 h2 l0 l1 l2 l3 l4
    have hno : b ∈ sgL → ¬ (b = 60 ∨ b = 62) := by
      intro z w
      rcases w with rfl | rfl
      · exact absurd z (by decide)
      · exact absurd z (by decide)
    refine r_iload dX8_readToken_383 (by first | rfl | assumption) ?_
    cases one with
    | true =>
      have hs := h1.mp rfl
      have ht : two = false := by
        cases two with
        | false => rfl
        | true => exact absurd (h2.mp rfl).1 (hno hs)
      refine r_if_ne_t (tgt := 394) dX8_readToken_385 (by decide) (show ¬ (1 : Int32) = 0 by decide) ?_
      refine l394 two L (fun z => by rw [ht] at z; cases z) (fun _ => ⟨hs, ?_⟩) l0 l1 l2 l3
      unfold sgn
      rw [if_pos hs]
    | false =>
      have hs : ¬ b ∈ sgL := fun z => by have := h1.mpr z; cases this
      refine r_if_ne_f (tgt := 394) dX8_readToken_385 (by decide) (rfl) ?_
      refine r_iload_n dX8_readToken_388 (by first | rfl | assumption) ?_
      cases two with
      | true =>
        have hs2 := h2.mp rfl
        refine r_if_ne_t (tgt := 394) dX8_readToken_389 (by decide) (show ¬ (1 : Int32) = 0 by decide) ?_
        refine l394 true L (fun _ => ⟨hs2.1, ?_⟩) (fun z => by cases z) l0 l1 l2 l3
        unfold sgn
        rw [if_neg hs, if_pos hs2.1, if_pos hs2.2]
      | false =>
        refine r_if_ne_f (tgt := 394) dX8_readToken_389 (by decide) (rfl) ?_
        refine r_ic (-1) dX8_readToken_392 rfl ?_
        refine r_ireturn dX8_readToken_393 _ rfl rfl ⟨r, rfl, eqx.rf, ?_⟩
        have : sgn xs k b = none := by
          unfold sgn
          rw [if_neg hs]
          by_cases w : b = 60 ∨ b = 62
          · rw [if_pos w, if_neg (fun z => by have := h2.mpr ⟨w, z⟩; cases this)]
          · rw [if_neg w]
        rw [e0, this]
  have l279 : ∀ (two : Bool) (L : Nat → Option Value), (two = true ↔ (b = 60 ∨ b = 62) ∧ ch xs (k + 1) = nI b) → L 0 = some (.ref 165) → L 1 = some (.int (nI k)) → L 2 = some (.int (sb_b b)) → Ru (d + 4) mX8_readToken 279 L [.int (bI two)] (RS S r) (z_en mX8_readToken (rtP S r xs ts k)) := by
    intro two L h2 l0 l1 l2
    refine r_istore_n dX8_readToken_279 (by decide) (by first | exact z_c1_i (by first | rfl | assumption) | exact z_c1_r (by first | rfl | assumption) | exact z_c1_n (by first | rfl | assumption) | exact z_c1_c (by first | rfl | assumption) | exact z_c1_0 (by first | rfl | assumption)) ?_
    have m0 : z_s1 L 3 (.int (bI two)) 0 = some (.ref 165) := l0
    have m1 : z_s1 L 3 (.int (bI two)) 1 = some (.int (nI k)) := l1
    have m2 : z_s1 L 3 (.int (bI two)) 2 = some (.int (sb_b b)) := l2
    have m3 : z_s1 L 3 (.int (bI two)) 3 = some (.int (bI two)) := rfl
    have l376 : b ∈ sgL → ∀ (L : Nat → Option Value), L 0 = some (.ref 165) → L 1 = some (.int (nI k)) → L 2 = some (.int (sb_b b)) → L 3 = some (.int (bI two)) → Ru (d + 4) mX8_readToken 376 L [] (RS S r) (z_en mX8_readToken (rtP S r xs ts k)) := by
      intro hs L l0 l1 l2 l3
      refine r_ic (1) dX8_readToken_376 rfl ?_
      refine r_goto (tgt := 381) dX8_readToken_377 (by decide) ?_
      refine r_istore dX8_readToken_381 (by decide) (by first | exact z_c1_i (by first | rfl | assumption) | exact z_c1_r (by first | rfl | assumption) | exact z_c1_n (by first | rfl | assumption) | exact z_c1_c (by first | rfl | assumption) | exact z_c1_0 (by first | rfl | assumption)) ?_
      exact l383 true two _ ⟨fun _ => hs, fun _ => rfl⟩ h2 l0 l1 l2 l3 rfl
    refine r_iload_n dX8_readToken_280 (by first | rfl | assumption) ?_
    refine r_bp (44) dX8_readToken_281 rfl ?_
    by_cases z44 : b = 44
    · refine r_icmp_eq_t (tgt := 376) dX8_readToken_283 (by decide) ((sb_is hb256 (by decide)).mpr z44) ?_
      exact l376 (z44 ▸ show 44 ∈ sgL by decide) _ m0 m1 m2 m3
    refine r_icmp_eq_f (tgt := 376) dX8_readToken_283 (by decide) (fun z => z44 ((sb_is hb256 (c := 44) (by decide)).mp z)) ?_
    refine r_iload_n dX8_readToken_286 (by first | rfl | assumption) ?_
    refine r_bp (58) dX8_readToken_287 rfl ?_
    by_cases z58 : b = 58
    · refine r_icmp_eq_t (tgt := 376) dX8_readToken_289 (by decide) ((sb_is hb256 (by decide)).mpr z58) ?_
      exact l376 (z58 ▸ show 58 ∈ sgL by decide) _ m0 m1 m2 m3
    refine r_icmp_eq_f (tgt := 376) dX8_readToken_289 (by decide) (fun z => z58 ((sb_is hb256 (c := 58) (by decide)).mp z)) ?_
    refine r_iload_n dX8_readToken_292 (by first | rfl | assumption) ?_
    refine r_bp (91) dX8_readToken_293 rfl ?_
    by_cases z91 : b = 91
    · refine r_icmp_eq_t (tgt := 376) dX8_readToken_295 (by decide) ((sb_is hb256 (by decide)).mpr z91) ?_
      exact l376 (z91 ▸ show 91 ∈ sgL by decide) _ m0 m1 m2 m3
    refine r_icmp_eq_f (tgt := 376) dX8_readToken_295 (by decide) (fun z => z91 ((sb_is hb256 (c := 91) (by decide)).mp z)) ?_
    refine r_iload_n dX8_readToken_298 (by first | rfl | assumption) ?_
    refine r_bp (93) dX8_readToken_299 rfl ?_
    by_cases z93 : b = 93
    · refine r_icmp_eq_t (tgt := 376) dX8_readToken_301 (by decide) ((sb_is hb256 (by decide)).mpr z93) ?_
      exact l376 (z93 ▸ show 93 ∈ sgL by decide) _ m0 m1 m2 m3
    refine r_icmp_eq_f (tgt := 376) dX8_readToken_301 (by decide) (fun z => z93 ((sb_is hb256 (c := 93) (by decide)).mp z)) ?_
    refine r_iload_n dX8_readToken_304 (by first | rfl | assumption) ?_
    refine r_bp (40) dX8_readToken_305 rfl ?_
    by_cases z40 : b = 40
    · refine r_icmp_eq_t (tgt := 376) dX8_readToken_307 (by decide) ((sb_is hb256 (by decide)).mpr z40) ?_
      exact l376 (z40 ▸ show 40 ∈ sgL by decide) _ m0 m1 m2 m3
    refine r_icmp_eq_f (tgt := 376) dX8_readToken_307 (by decide) (fun z => z40 ((sb_is hb256 (c := 40) (by decide)).mp z)) ?_
    refine r_iload_n dX8_readToken_310 (by first | rfl | assumption) ?_
    refine r_bp (41) dX8_readToken_311 rfl ?_
    by_cases z41 : b = 41
    · refine r_icmp_eq_t (tgt := 376) dX8_readToken_313 (by decide) ((sb_is hb256 (by decide)).mpr z41) ?_
      exact l376 (z41 ▸ show 41 ∈ sgL by decide) _ m0 m1 m2 m3
    refine r_icmp_eq_f (tgt := 376) dX8_readToken_313 (by decide) (fun z => z41 ((sb_is hb256 (c := 41) (by decide)).mp z)) ?_
    refine r_iload_n dX8_readToken_316 (by first | rfl | assumption) ?_
    refine r_bp (43) dX8_readToken_317 rfl ?_
    by_cases z43 : b = 43
    · refine r_icmp_eq_t (tgt := 376) dX8_readToken_319 (by decide) ((sb_is hb256 (by decide)).mpr z43) ?_
      exact l376 (z43 ▸ show 43 ∈ sgL by decide) _ m0 m1 m2 m3
    refine r_icmp_eq_f (tgt := 376) dX8_readToken_319 (by decide) (fun z => z43 ((sb_is hb256 (c := 43) (by decide)).mp z)) ?_
    refine r_iload_n dX8_readToken_322 (by first | rfl | assumption) ?_
    refine r_bp (45) dX8_readToken_323 rfl ?_
    by_cases z45 : b = 45
    · refine r_icmp_eq_t (tgt := 376) dX8_readToken_325 (by decide) ((sb_is hb256 (by decide)).mpr z45) ?_
      exact l376 (z45 ▸ show 45 ∈ sgL by decide) _ m0 m1 m2 m3
    refine r_icmp_eq_f (tgt := 376) dX8_readToken_325 (by decide) (fun z => z45 ((sb_is hb256 (c := 45) (by decide)).mp z)) ?_
    refine r_iload_n dX8_readToken_328 (by first | rfl | assumption) ?_
    refine r_bp (42) dX8_readToken_329 rfl ?_
    by_cases z42 : b = 42
    · refine r_icmp_eq_t (tgt := 376) dX8_readToken_331 (by decide) ((sb_is hb256 (by decide)).mpr z42) ?_
      exact l376 (z42 ▸ show 42 ∈ sgL by decide) _ m0 m1 m2 m3
    refine r_icmp_eq_f (tgt := 376) dX8_readToken_331 (by decide) (fun z => z42 ((sb_is hb256 (c := 42) (by decide)).mp z)) ?_
    refine r_iload_n dX8_readToken_334 (by first | rfl | assumption) ?_
    refine r_bp (47) dX8_readToken_335 rfl ?_
    by_cases z47 : b = 47
    · refine r_icmp_eq_t (tgt := 376) dX8_readToken_337 (by decide) ((sb_is hb256 (by decide)).mpr z47) ?_
      exact l376 (z47 ▸ show 47 ∈ sgL by decide) _ m0 m1 m2 m3
    refine r_icmp_eq_f (tgt := 376) dX8_readToken_337 (by decide) (fun z => z47 ((sb_is hb256 (c := 47) (by decide)).mp z)) ?_
    refine r_iload_n dX8_readToken_340 (by first | rfl | assumption) ?_
    refine r_bp (37) dX8_readToken_341 rfl ?_
    by_cases z37 : b = 37
    · refine r_icmp_eq_t (tgt := 376) dX8_readToken_343 (by decide) ((sb_is hb256 (by decide)).mpr z37) ?_
      exact l376 (z37 ▸ show 37 ∈ sgL by decide) _ m0 m1 m2 m3
    refine r_icmp_eq_f (tgt := 376) dX8_readToken_343 (by decide) (fun z => z37 ((sb_is hb256 (c := 37) (by decide)).mp z)) ?_
    refine r_iload_n dX8_readToken_346 (by first | rfl | assumption) ?_
    refine r_bp (38) dX8_readToken_347 rfl ?_
    by_cases z38 : b = 38
    · refine r_icmp_eq_t (tgt := 376) dX8_readToken_349 (by decide) ((sb_is hb256 (by decide)).mpr z38) ?_
      exact l376 (z38 ▸ show 38 ∈ sgL by decide) _ m0 m1 m2 m3
    refine r_icmp_eq_f (tgt := 376) dX8_readToken_349 (by decide) (fun z => z38 ((sb_is hb256 (c := 38) (by decide)).mp z)) ?_
    refine r_iload_n dX8_readToken_352 (by first | rfl | assumption) ?_
    refine r_bp (124) dX8_readToken_353 rfl ?_
    by_cases z124 : b = 124
    · refine r_icmp_eq_t (tgt := 376) dX8_readToken_355 (by decide) ((sb_is hb256 (by decide)).mpr z124) ?_
      exact l376 (z124 ▸ show 124 ∈ sgL by decide) _ m0 m1 m2 m3
    refine r_icmp_eq_f (tgt := 376) dX8_readToken_355 (by decide) (fun z => z124 ((sb_is hb256 (c := 124) (by decide)).mp z)) ?_
    refine r_iload_n dX8_readToken_358 (by first | rfl | assumption) ?_
    refine r_bp (94) dX8_readToken_359 rfl ?_
    by_cases z94 : b = 94
    · refine r_icmp_eq_t (tgt := 376) dX8_readToken_361 (by decide) ((sb_is hb256 (by decide)).mpr z94) ?_
      exact l376 (z94 ▸ show 94 ∈ sgL by decide) _ m0 m1 m2 m3
    refine r_icmp_eq_f (tgt := 376) dX8_readToken_361 (by decide) (fun z => z94 ((sb_is hb256 (c := 94) (by decide)).mp z)) ?_
    refine r_iload_n dX8_readToken_364 (by first | rfl | assumption) ?_
    refine r_bp (126) dX8_readToken_365 rfl ?_
    by_cases z126 : b = 126
    · refine r_icmp_eq_t (tgt := 376) dX8_readToken_367 (by decide) ((sb_is hb256 (by decide)).mpr z126) ?_
      exact l376 (z126 ▸ show 126 ∈ sgL by decide) _ m0 m1 m2 m3
    refine r_icmp_eq_f (tgt := 376) dX8_readToken_367 (by decide) (fun z => z126 ((sb_is hb256 (c := 126) (by decide)).mp z)) ?_
    refine r_iload_n dX8_readToken_370 (by first | rfl | assumption) ?_
    refine r_bp (36) dX8_readToken_371 rfl ?_
    by_cases z36 : b = 36
    · refine r_icmp_ne_f (tgt := 380) dX8_readToken_373 (by decide) ((sb_is hb256 (by decide)).mpr z36) ?_
      exact l376 (z36 ▸ show 36 ∈ sgL by decide) _ m0 m1 m2 m3
    refine r_icmp_ne_t (tgt := 380) dX8_readToken_373 (by decide) (fun z => z36 ((sb_is hb256 (c := 36) (by decide)).mp z)) ?_
    refine r_ic (0) dX8_readToken_380 rfl ?_
    refine r_istore dX8_readToken_381 (by decide) (by first | exact z_c1_i (by first | rfl | assumption) | exact z_c1_r (by first | rfl | assumption) | exact z_c1_n (by first | rfl | assumption) | exact z_c1_c (by first | rfl | assumption) | exact z_c1_0 (by first | rfl | assumption)) ?_
    refine l383 false two _ ⟨fun z => (by cases z), fun z => absurd z (show ¬ b ∈ sgL from by unfold sgL; simp [z44, z58, z91, z93, z40, z41, z43, z45, z42, z47, z37, z38, z124, z94, z126, z36])⟩ h2 m0 m1 m2 m3 rfl
  refine r_iload_n dX8_readToken_240 (by first | rfl | assumption) ?_
  refine r_bp (60) dX8_readToken_241 rfl ?_
  have l252 : (b = 60 ∨ b = 62) → ∀ (L : Nat → Option Value), L 0 = some (.ref 165) → L 1 = some (.int (nI k)) → L 2 = some (.int (sb_b b)) → Ru (d + 4) mX8_readToken 252 L [] (RS S r) (z_en mX8_readToken (rtP S r xs ts k)) := by
    intro w L l0 l1 l2
    refine r_iload_n dX8_readToken_252 (by first | rfl | assumption) ?_
    refine r_ic (1) dX8_readToken_253 rfl ?_
    refine r_iadd dX8_readToken_254 ?_
    rw [nI_1]
    refine r_aload_n dX8_readToken_255 (by first | rfl | assumption) ?_
    refine r8_get dX8_readToken_256 zf_X8_199 rfl ?_
    rw [h.1]
    by_cases w1 : xs.length ≤ k + 1
    · refine r_icmp_ge_t (tgt := 278) dX8_readToken_259 (by decide) (nI_le w1 (by omega)) ?_
      refine r_ic (0) dX8_readToken_278 rfl ?_
      refine l279 false L ⟨fun z => (by cases z), fun z => ?_⟩ l0 l1 l2
      rw [ch_out w1] at z
      rcases w with rfl | rfl
      · exact absurd z.2 (by decide)
      · exact absurd z.2 (by decide)
    refine r_icmp_ge_f (tgt := 278) dX8_readToken_259 (by decide) (nI_ge (a := k + 1) (b := xs.length) (by omega) (by omega)) ?_
    have hb1 := h.at hl (k := k + 1) (by omega)
    have ec1 := ch_in (xs := xs) (k := k + 1) (by omega)
    refine r_aload_n dX8_readToken_262 (by first | rfl | assumption) ?_
    refine r8_get dX8_readToken_263 zf_X8_21 rfl ?_
    refine r_iload_n dX8_readToken_266 (by first | rfl | assumption) ?_
    refine r_ic (1) dX8_readToken_267 rfl ?_
    refine r_iadd dX8_readToken_268 ?_
    rw [nI_1]
    refine r8_bald dX8_readToken_269 (by decide) (rfl) (by first | assumption | exact (show _ < 65536 by omega) | exact (show _ < 1100 by omega) | exact (show _ < 24 by omega) | exact (show _ < 2100 by omega) | exact (show _ < 6600 by omega) | exact (show _ < 1110 by omega)) ?_
    rw [hb1.2]
    refine r_iload_n dX8_readToken_270 (by first | rfl | assumption) ?_
    by_cases w2 : xs.getD (k + 1) 0 = b
    · refine r_icmp_ne_f (tgt := 278) dX8_readToken_271 (by decide) (by rw [w2]) ?_
      refine r_ic (1) dX8_readToken_274 rfl ?_
      refine r_goto (tgt := 279) dX8_readToken_275 (by decide) ?_
      exact l279 true L ⟨fun _ => ⟨w, by rw [ec1, w2]⟩, fun _ => rfl⟩ l0 l1 l2
    · refine r_icmp_ne_t (tgt := 278) dX8_readToken_271 (by decide) (fun z => w2 ((sb_inj hb1.1 hb256).mp z)) ?_
      refine r_ic (0) dX8_readToken_278 rfl ?_
      refine l279 false L ⟨fun z => (by cases z), fun z => ?_⟩ l0 l1 l2
      exact absurd ((nI_eq (by omega) (by omega)).mp (ec1.symm.trans z.2)) w2
  by_cases q60 : b = 60
  · refine r_icmp_eq_t (tgt := 252) dX8_readToken_243 (by decide) ((sb_is hb256 (by decide)).mpr q60) ?_
    exact l252 (Or.inl q60) _ rfl rfl rfl
  refine r_icmp_eq_f (tgt := 252) dX8_readToken_243 (by decide) (fun z => q60 ((sb_is hb256 (c := 60) (by decide)).mp z)) ?_
  refine r_iload_n dX8_readToken_246 (by first | rfl | assumption) ?_
  refine r_bp (62) dX8_readToken_247 rfl ?_
  by_cases q62 : b = 62
  · refine r_icmp_ne_f (tgt := 278) dX8_readToken_249 (by decide) ((sb_is hb256 (by decide)).mpr q62) ?_
    exact l252 (Or.inr q62) _ rfl rfl rfl
  refine r_icmp_ne_t (tgt := 278) dX8_readToken_249 (by decide) (fun z => q62 ((sb_is hb256 (c := 62) (by decide)).mp z)) ?_
  refine r_ic (0) dX8_readToken_278 rfl ?_
  exact l279 false _ ⟨fun z => (by cases z), fun z => absurd z.1 (fun w => w.elim q60 q62)⟩ rfl rfl rfl
end
