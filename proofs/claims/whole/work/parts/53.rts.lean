/-! THE REFERENCE: a line's tokens -/
def tle (ts : List zT) : Nat := match ts.getLast? with
  | none => 0
  | some q => q.2.2.1
theorem tle_sn {ts : List zT} {q : zT} : tle (ts ++ [q]) = q.2.2.1 := by
  unfold tle
  rw [List.getLast?_append]
  rfl
theorem skB_bl {xs : List Nat} {k : Nat} (hk : k < xs.length) (h : fBl (nI (xs.getD k 0)) = true) : skB xs k = skB xs (k + 1) := by
  unfold skB
  rw [show xs.length - k = (xs.length - (k + 1)) + 1 by omega]
  show (if fBl (nI (xs.getD k 0)) = true then _ else _) = _
  rw [if_pos h]
theorem skB_no {xs : List Nat} {k : Nat} (h : xs.length ≤ k ∨ fBl (nI (xs.getD k 0)) = false) : skB xs k = k := by
  unfold skB
  cases hm : xs.length - k with
  | zero => rfl
  | succ m =>
    rcases h with h | h
    · omega
    · show (if fBl (nI (xs.getD k 0)) = true then _ else _) = _
      rw [h]
      rfl
set_option maxRecDepth 100000 in
theorem npr : ∀ b, b < 256 → fPr (nI b) = false → fDg (nI b) = false ∧ fNm (nI b) = false ∧ ¬ nI b = 39 ∧ ¬ nI b = 34 ∧ ¬ b ∈ sgL ∧ ¬ (b = 60 ∨ b = 62) := by decide +kernel
theorem tk_np {xs : List Nat} {k : Nat} (hk : k < xs.length) (hb : xs.getD k 0 < 256) (h : fPr (ch xs k) = false) : tk xs k = none := by
  rw [ch_in hk] at h
  obtain ⟨h1, h2, h3, h4, h5, h6⟩ := npr _ hb h
  unfold tk sgn
  rw [ch_in hk, if_neg (by rw [h1]; exact Bool.false_ne_true), if_neg (by rw [h2]; exact Bool.false_ne_true), if_neg h3, if_neg h4, if_neg h5, if_neg h6]
section
variable {d : Nat} {S : zS} {r : zR} {xs : List Nat} {kd : Nat → Int32} {n : Nat}
/-- behind a line's tokens -/
def rsP (S : zS) (r : zR) (xs : List Nat) (ow : Int32) (v : Option Value) (S1 : zS) : Prop := v = none ∧ ∃ r', S1 = RS S r' ∧ match tks xs with
  | none => eqx [41, 46, 11, 12] [237, 238, 239, 240] r r' ∧ r'.1 11 = 1 ∧ r'.1 12 = ow
  | some ts => eqx [41, 46] [237, 238, 239, 240] r r' ∧ TK r' xs ts ∧ r'.2.1 238 ts.length = nI (skB xs (tle ts))
set_option maxRecDepth 10000 in
set_option maxHeartbeats 2000000 in
theorem C_X8_readTokens (h : LN r xs) (hl : xs.length ≤ 1024) (hk : FK kd r n) (hbad : r.1 11 = 0) : Rc (d + 5) mX8_readTokens [.ref 165] (RS S r) (rsP S r xs (own kd r n)) := by
  have loop : ∀ (m p k : Nat) (ts : List zT) (r1 : zR) (L : Nat → Option Value), xs.length - k ≤ m → xs.length - k ≤ p → k ≤ xs.length → skB xs (tle ts) = skB xs k → (match tkF xs p (skB xs k) with
      | none => none
      | some t => some (ts ++ t)) = tks xs → TK r1 xs ts → ts.length ≤ k → eqx [41, 46] [237, 238, 239, 240] r r1 → L 0 = some (.ref 165) → L 1 = some (.int (nI k)) → Ru (d + 5) mX8_readTokens 7 L [] (RS S r1) (z_en mX8_readTokens (rsP S r xs (own kd r n))) := by
    intro m
    have fin : ∀ (k : Nat) (ts : List zT) (r1 : zR) (L : Nat → Option Value), k ≤ xs.length → skB xs (tle ts) = k → tks xs = some ts → TK r1 xs ts → ts.length ≤ k → eqx [41, 46] [237, 238, 239, 240] r r1 → L 0 = some (.ref 165) → L 1 = some (.int (nI k)) → Ru (d + 5) mX8_readTokens 101 L [] (RS S r1) (z_en mX8_readTokens (rsP S r xs (own kd r n))) := by
      intro k ts r1 L hk1 hs ht hT hlen hx l0 l1
      refine r_aload_n dX8_readTokens_101 (by first | rfl | assumption) ?_
      refine r_ic (0) dX8_readTokens_102 rfl ?_
      refine r_iload_n dX8_readTokens_103 (by first | rfl | assumption) ?_
      refine r_iload_n dX8_readTokens_104 (by first | rfl | assumption) ?_
      refine r_lc (0) dX8_readTokens_105 rfl ?_
      refine r_callV4 dX8_readTokens_106 zm_X8_229 RS_o rfl (Nat.le_of_ble_eq_true rfl) (Nat.le_of_ble_eq_true rfl) (C_X8_token hT.1 (by omega) (Nat.le_refl k)) (fun u S9 hv => ?_)
      obtain ⟨rfl, rfl⟩ := hv
      have hv := rT_v (r := r1) (n := ts.length) (w := 0) (s := nI k) (l := nI (k - k)) (v := 0)
      refine r_aload_n dX8_readTokens_109 (by first | rfl | assumption) ?_
      refine r_dup dX8_readTokens_110 rfl ?_
      refine r8_get dX8_readTokens_111 zf_X8_215 rfl ?_
      refine r_ic (1) dX8_readTokens_114 rfl ?_
      rw [hv.1]
      refine r_isub dX8_readTokens_115 ?_
      rw [nI_p1]
      refine r8_put dX8_readTokens_116 zf_X8_215 (Nat.le_of_ble_eq_true rfl) rfl (⟨rfl, rfl⟩) ?_
      refine r_return dX8_readTokens_119 rfl ⟨rfl, _, rfl, ?_⟩
      rw [ht]
      refine ⟨(hx.tr (rT_x.mono (by decide) (by decide))).tr (eqx.f (by decide)), ⟨rfl, hT.2.1, fun i hi => ?_⟩, ?_⟩
      · have ho := rT_o (r := r1) (n := ts.length) (w := 0) (s := nI k) (l := nI (k - k)) (v := 0) (i := i) (by omega)
        show (rT r1 ts.length 0 (nI k) (nI (k - k)) 0).2.1 238 i = _ ∧ (rT r1 ts.length 0 (nI k) (nI (k - k)) 0).2.1 239 i = _ ∧ tkm xs _ ((rT r1 ts.length 0 (nI k) (nI (k - k)) 0).2.1 237 i) ((rT r1 ts.length 0 (nI k) (nI (k - k)) 0).2.2 240 i)
        rw [ho.1, ho.2.1, ho.2.2.1, ho.2.2.2]
        exact hT.2.2 i hi
      · rw [hs]
        exact hv.2.2.1
    induction m with
    | zero =>
      intro p k ts r1 L hm hp hk1 hs ht hT hlen hx l0 l1
      have hL1 : LN r1 xs := h.mv hx (by decide) (by decide)
      have ek : k = xs.length := by omega
      have e1 : skB xs k = k := skB_no (Or.inl (by omega))
      rw [e1] at hs ht
      have e2 : tkF xs p k = some [] := by
        cases p with
        | zero => rfl
        | succ p => rw [tkF_s, if_pos (Or.inl (by omega))]
      rw [e2] at ht
      have ht : some (ts ++ []) = tks xs := ht
      rw [List.append_nil] at ht
      refine r_iload_n dX8_readTokens_7 (by first | rfl | assumption) ?_
      refine r_aload_n dX8_readTokens_8 (by first | rfl | assumption) ?_
      refine r8_get dX8_readTokens_9 zf_X8_199 rfl ?_
      rw [hL1.1]
      refine r_icmp_ge_t (tgt := 101) dX8_readTokens_12 (by decide) (nI_le (a := xs.length) (b := k) (by omega) (by omega)) ?_
      exact fin k ts r1 L hk1 hs ht.symm hT hlen hx l0 l1
    | succ m ih =>
      intro p k ts r1 L hm hp hk1 hs ht hT hlen hx l0 l1
      have hL1 : LN r1 xs := h.mv hx (by decide) (by decide)
      refine r_iload_n dX8_readTokens_7 (by first | rfl | assumption) ?_
      refine r_aload_n dX8_readTokens_8 (by first | rfl | assumption) ?_
      refine r8_get dX8_readTokens_9 zf_X8_199 rfl ?_
      rw [hL1.1]
      by_cases q0 : xs.length ≤ k
      · have e1 : skB xs k = k := skB_no (Or.inl (by omega))
        rw [e1] at hs ht
        have e2 : tkF xs p k = some [] := by
          cases p with
          | zero => rfl
          | succ p => rw [tkF_s, if_pos (Or.inl (by omega))]
        rw [e2] at ht
        have ht : some (ts ++ []) = tks xs := ht
        rw [List.append_nil] at ht
        refine r_icmp_ge_t (tgt := 101) dX8_readTokens_12 (by decide) (nI_le (a := xs.length) (b := k) (by omega) (by omega)) ?_
        exact fin k ts r1 L hk1 hs ht.symm hT hlen hx l0 l1
      refine r_icmp_ge_f (tgt := 101) dX8_readTokens_12 (by decide) (nI_ge (a := k) (b := xs.length) (by omega) (by omega)) ?_
      have hb := hL1.at hl (k := k) (by omega)
      have ec := ch_in (xs := xs) (k := k) (by omega)
      obtain ⟨p', rfl⟩ : ∃ p', p = p' + 1 := ⟨p - 1, by omega⟩
      refine r_aload_n dX8_readTokens_15 (by first | rfl | assumption) ?_
      refine r8_get dX8_readTokens_16 zf_X8_21 rfl ?_
      refine r_iload_n dX8_readTokens_19 (by first | rfl | assumption) ?_
      refine r8_bald dX8_readTokens_20 (by decide) (rfl) (by first | assumption | exact (show _ < 65536 by omega) | exact (show _ < 1100 by omega) | exact (show _ < 24 by omega) | exact (show _ < 2100 by omega) | exact (show _ < 6600 by omega) | exact (show _ < 1110 by omega)) ?_
      rw [hb.2]
      refine r_bp (59) dX8_readTokens_21 rfl ?_
      by_cases q1 : xs.getD k 0 = 59
      · refine r_icmp_eq_t (tgt := 101) dX8_readTokens_23 (by decide) ((sb_is hb.1 (by decide)).mpr q1) ?_
        have e1 : skB xs k = k := skB_no (Or.inr (by rw [q1]; rfl))
        rw [e1] at hs ht
        rw [tkF_s, if_pos (Or.inr (by rw [ec, q1]; rfl))] at ht
        have ht : some (ts ++ []) = tks xs := ht
        rw [List.append_nil] at ht
        exact fin k ts r1 L hk1 hs ht.symm hT hlen hx l0 l1
      refine r_icmp_eq_f (tgt := 101) dX8_readTokens_23 (by decide) (fun z => q1 ((sb_is hb.1 (c := 59) (by decide)).mp z)) ?_
      have bl : fBl (nI (xs.getD k 0)) = true → Ru (d + 5) mX8_readTokens 48 L [] (RS S r1) (z_en mX8_readTokens (rsP S r xs (own kd r n))) := by
        intro q
        have e1 := skB_bl (xs := xs) (k := k) (by omega) q
        rw [e1] at hs ht
        refine r_inc (nI (k + 1)) dX8_readTokens_48 (by first | rfl | assumption) (by decide) (by first | exact z_c1_i (by first | rfl | assumption) | exact z_c1_r (by first | rfl | assumption) | exact z_c1_n (by first | rfl | assumption) | exact z_c1_c (by first | rfl | assumption) | exact z_c1_0 (by first | rfl | assumption)) (nI_1 _) ?_
        refine r_goto (tgt := 7) dX8_readTokens_51 (by decide) ?_
        exact ih (p' + 1) (k + 1) ts r1 _ (by omega) (by omega) (by omega) hs ht hT (by omega) hx l0 rfl
      refine r_aload_n dX8_readTokens_26 (by first | rfl | assumption) ?_
      refine r8_get dX8_readTokens_27 zf_X8_21 rfl ?_
      refine r_iload_n dX8_readTokens_30 (by first | rfl | assumption) ?_
      refine r8_bald dX8_readTokens_31 (by decide) (rfl) (by first | assumption | exact (show _ < 65536 by omega) | exact (show _ < 1100 by omega) | exact (show _ < 24 by omega) | exact (show _ < 2100 by omega) | exact (show _ < 6600 by omega) | exact (show _ < 1110 by omega)) ?_
      rw [hb.2]
      refine r_bp (32) dX8_readTokens_32 rfl ?_
      by_cases q2 : xs.getD k 0 = 32
      · refine r_icmp_eq_t (tgt := 48) dX8_readTokens_34 (by decide) ((sb_is hb.1 (by decide)).mpr q2) ?_
        exact bl (by rw [q2]; rfl)
      refine r_icmp_eq_f (tgt := 48) dX8_readTokens_34 (by decide) (fun z => q2 ((sb_is hb.1 (c := 32) (by decide)).mp z)) ?_
      refine r_aload_n dX8_readTokens_37 (by first | rfl | assumption) ?_
      refine r8_get dX8_readTokens_38 zf_X8_21 rfl ?_
      refine r_iload_n dX8_readTokens_41 (by first | rfl | assumption) ?_
      refine r8_bald dX8_readTokens_42 (by decide) (rfl) (by first | assumption | exact (show _ < 65536 by omega) | exact (show _ < 1100 by omega) | exact (show _ < 24 by omega) | exact (show _ < 2100 by omega) | exact (show _ < 6600 by omega) | exact (show _ < 1110 by omega)) ?_
      rw [hb.2]
      refine r_bp (9) dX8_readTokens_43 rfl ?_
      by_cases q3 : xs.getD k 0 = 9
      · refine r_icmp_ne_f (tgt := 54) dX8_readTokens_45 (by decide) ((sb_is hb.1 (by decide)).mpr q3) ?_
        exact bl (by rw [q3]; rfl)
      refine r_icmp_ne_t (tgt := 54) dX8_readTokens_45 (by decide) (fun z => q3 ((sb_is hb.1 (c := 9) (by decide)).mp z)) ?_
      have hnb : fBl (nI (xs.getD k 0)) = false := by
        unfold fBl
        rw [decide_eq_false (show ¬ nI (xs.getD k 0) = 9 from fun z => q3 ((nI_eq (b := 9) (by omega) (by decide)).mp z)), decide_eq_false (show ¬ nI (xs.getD k 0) = 32 from fun z => q2 ((nI_eq (b := 32) (by omega) (by decide)).mp z))]
        rfl
      have e1 : skB xs k = k := skB_no (Or.inr hnb)
      rw [e1] at hs ht
      rw [tkF_s, if_neg (fun z => z.elim q0 (fun w => q1 ((nI_eq (b := 59) (by omega) (by decide)).mp (ec.symm.trans w))))] at ht
      have hp1 := fPr_ge hb.1
      -- no token
      have bad : ∀ (r2 : zR) (L : Nat → Option Value), tk xs k = none → eqx [41, 46] [237, 238, 239, 240] r r2 → L 0 = some (.ref 165) → L 1 = some (.int (nI k)) → Ru (d + 5) mX8_readTokens 85 L [.int (-1)] (RS S r2) (z_en mX8_readTokens (rsP S r xs (own kd r n))) := by
        intro r2 L hq hx2 l0 l1
        rw [hq] at ht
        have ht : none = tks xs := ht
        refine r_istore_n dX8_readTokens_85 (by decide) (by first | exact z_c1_i (by first | rfl | assumption) | exact z_c1_r (by first | rfl | assumption) | exact z_c1_n (by first | rfl | assumption) | exact z_c1_c (by first | rfl | assumption) | exact z_c1_0 (by first | rfl | assumption)) ?_
        refine r_iload_n dX8_readTokens_86 (by first | rfl | assumption) ?_
        refine r_if_ge_f (tgt := 96) dX8_readTokens_87 (by decide) (show ¬ (0 : Int32) ≤ -1 by decide) ?_
        refine r_aload_n dX8_readTokens_90 (by first | rfl | assumption) ?_
        refine r_ic (1) dX8_readTokens_91 rfl ?_
        have hk2 := hk.mv hx2 (by decide) (by decide)
        refine r_callV1 dX8_readTokens_92 zm_X8_189 RS_o rfl (Nat.le_of_ble_eq_true rfl) (Nat.le_of_ble_eq_true rfl) (C_X8_fail (k := 1) hk2) (fun v S9 hv => ?_)
        obtain ⟨rfl, rfl⟩ := hv
        rw [if_pos ((hx2.1 11 (by decide)).trans hbad)]
        refine r_return dX8_readTokens_95 rfl ⟨rfl, _, rfl, ?_⟩
        rw [← ht]
        refine ⟨((hx2.mono (by decide) (by decide)).tr (eqx.f (by decide))).tr (eqx.f (by decide)), rfl, ?_⟩
        show own kd r2 n = own kd r n
        unfold own
        rw [hx2.1 6 (by decide), (hx2.2 175 (by decide)).1]
      refine r_aload_n dX8_readTokens_54 (by first | rfl | assumption) ?_
      refine r8_get dX8_readTokens_55 zf_X8_21 rfl ?_
      refine r_iload_n dX8_readTokens_58 (by first | rfl | assumption) ?_
      refine r8_bald dX8_readTokens_59 (by decide) (rfl) (by first | assumption | exact (show _ < 65536 by omega) | exact (show _ < 1100 by omega) | exact (show _ < 24 by omega) | exact (show _ < 2100 by omega) | exact (show _ < 6600 by omega) | exact (show _ < 1110 by omega)) ?_
      rw [hb.2]
      refine r_bp (32) dX8_readTokens_60 rfl ?_
      by_cases q4 : sb_b (xs.getD k 0) < 32
      · refine r_icmp_lt_t (tgt := 76) dX8_readTokens_62 (by decide) (q4) ?_
        refine r_ic (-1) dX8_readTokens_76 rfl ?_
        refine r_goto (tgt := 85) dX8_readTokens_77 (by decide) ?_
        exact bad r1 L (tk_np (by omega) hb.1 (by rw [ec]; exact Bool.eq_false_iff.mpr (fun z => (hp1.mp z).1 q4))) hx l0 l1
      refine r_icmp_lt_f (tgt := 76) dX8_readTokens_62 (by decide) (q4) ?_
      refine r_aload_n dX8_readTokens_65 (by first | rfl | assumption) ?_
      refine r8_get dX8_readTokens_66 zf_X8_21 rfl ?_
      refine r_iload_n dX8_readTokens_69 (by first | rfl | assumption) ?_
      refine r8_bald dX8_readTokens_70 (by decide) (rfl) (by first | assumption | exact (show _ < 65536 by omega) | exact (show _ < 1100 by omega) | exact (show _ < 24 by omega) | exact (show _ < 2100 by omega) | exact (show _ < 6600 by omega) | exact (show _ < 1110 by omega)) ?_
      rw [hb.2]
      refine r_bp (126) dX8_readTokens_71 rfl ?_
      by_cases q5 : 126 < sb_b (xs.getD k 0)
      · refine r_icmp_le_f (tgt := 80) dX8_readTokens_73 (by decide) (Int32.not_le.mpr q5) ?_
        refine r_ic (-1) dX8_readTokens_76 rfl ?_
        refine r_goto (tgt := 85) dX8_readTokens_77 (by decide) ?_
        exact bad r1 L (tk_np (by omega) hb.1 (by rw [ec]; exact Bool.eq_false_iff.mpr (fun z => (hp1.mp z).2 q5))) hx l0 l1
      refine r_icmp_le_t (tgt := 80) dX8_readTokens_73 (by decide) (Int32.not_lt.mp q5) ?_
      refine r_aload_n dX8_readTokens_80 (by first | rfl | assumption) ?_
      refine r_iload_n dX8_readTokens_81 (by first | rfl | assumption) ?_
      refine r_callV1 dX8_readTokens_82 zm_X8_242 RS_o rfl (Nat.le_of_ble_eq_true rfl) (Nat.le_of_ble_eq_true rfl) (C_X8_readToken hL1 hl (by omega) hT (by omega) (by rw [ec]; exact hp1.mpr ⟨q4, q5⟩)) (fun v S9 hv => ?_)
      obtain ⟨r2, rfl, hx2, hv⟩ := hv
      cases hq : tk xs k with
      | none =>
        rw [hq] at hv
        have hv : v = some (.int (-1)) := hv
        subst hv
        exact bad r2 L hq (hx.tr hx2) l0 l1
      | some q =>
        rw [hq] at hv ht
        obtain ⟨rfl, hT2⟩ := hv
        have hlt := tk_lt (kd := q.1) (j := q.2.1) (ov := q.2.2) hq (by omega) (by omega) hb.1
        refine r_istore_n dX8_readTokens_85 (by decide) (by first | exact z_c1_i (by first | rfl | assumption) | exact z_c1_r (by first | rfl | assumption) | exact z_c1_n (by first | rfl | assumption) | exact z_c1_c (by first | rfl | assumption) | exact z_c1_0 (by first | rfl | assumption)) ?_
        refine r_iload_n dX8_readTokens_86 (by first | rfl | assumption) ?_
        refine r_if_ge_t (tgt := 96) dX8_readTokens_87 (by decide) (show nI 0 ≤ nI q.2.1 from nI_le (Nat.zero_le _) (by omega)) ?_
        refine r_iload_n dX8_readTokens_96 (by first | rfl | assumption) ?_
        refine r_istore_n dX8_readTokens_97 (by decide) (by first | exact z_c1_i (by first | rfl | assumption) | exact z_c1_r (by first | rfl | assumption) | exact z_c1_n (by first | rfl | assumption) | exact z_c1_c (by first | rfl | assumption) | exact z_c1_0 (by first | rfl | assumption)) ?_
        refine r_goto (tgt := 7) dX8_readTokens_98 (by decide) ?_
        refine ih p' q.2.1 (ts ++ [(q.1, k, q.2.1, q.2.2)]) r2 _ (by omega) (by omega) hlt.2 (by rw [tle_sn]) ?_ hT2 (by rw [List.length_append]; show ts.length + 1 ≤ q.2.1; omega) (hx.tr hx2) l0 rfl
        rw [← ht]
        show _ = match (match tkF xs p' (skB xs q.2.1) with
          | none => none
          | some ts => some ((q.1, k, q.2.1, q.2.2) :: ts)) with
          | none => none
          | some t => some (ts ++ t)
        cases tkF xs p' (skB xs q.2.1) with
        | none => rfl
        | some t =>
          show some (ts ++ [(q.1, k, q.2.1, q.2.2)] ++ t) = some (ts ++ (q.1, k, q.2.1, q.2.2) :: t)
          rw [List.append_assoc]
          rfl
  refine Rc.of ?_
  refine r_aload_n dX8_readTokens_0 (by first | rfl | assumption) ?_
  refine r_ic (0) dX8_readTokens_1 rfl ?_
  refine r8_put dX8_readTokens_2 zf_X8_215 (Nat.le_of_ble_eq_true rfl) rfl (⟨rfl, rfl⟩) ?_
  refine r_ic (0) dX8_readTokens_5 rfl ?_
  refine r_istore_n dX8_readTokens_6 (by decide) (by first | exact z_c1_i (by first | rfl | assumption) | exact z_c1_r (by first | rfl | assumption) | exact z_c1_n (by first | rfl | assumption) | exact z_c1_c (by first | rfl | assumption) | exact z_c1_0 (by first | rfl | assumption)) ?_
  refine loop xs.length xs.length 0 [] (rF r 41 0) _ (by omega) (by omega) (Nat.zero_le _) rfl ?_ ⟨rfl, by decide, fun i hi => by cases hi⟩ (Nat.zero_le _) (eqx.f (by decide)) rfl rfl
  show (match tks xs with
    | none => none
    | some t => some ([] ++ t)) = tks xs
  cases tks xs with
  | none => rfl
  | some t => rfl
end
