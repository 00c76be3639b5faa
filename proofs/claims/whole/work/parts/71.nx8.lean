section
variable {d : Nat} {S : zS} {r : zR} {c c1 : zD} {g g1 : zG} {out : Nat}
set_option maxRecDepth 10000 in
set_option maxHeartbeats 2000000 in
theorem C_X8_nextLine {n : Nat} (h : REL2 c g r) (hw : WF c g) (hb : r.1 11 = 0) (hn : rnR n c g c1 g1 out) : Rc (d + 2) mX8_nextLine [.ref 165] (RS S r) (nlP n S r c c1 g1 out) := by
  refine Rc.of ?_
  rcases h with h | ⟨o, x1, x2, x3, x4, x5, x6, x7, x8, x9, x10⟩
  · refine r_aload_n dX8_nextLine_0 (by first | rfl | assumption) ?_
    refine r_callV0 dX8_nextLine_1 zm_X8_183 RS_o rfl (Nat.le_of_ble_eq_true rfl) (Nat.le_of_ble_eq_true rfl) (C_X8_reader h.fk) (fun v S9 hv => ?_)
    obtain ⟨rfl, rfl⟩ := hv
    refine r_istore_n dX8_nextLine_4 (by decide) (by first | assumption | exact z_c1_i (by first | rfl | assumption) | exact z_c1_r (by first | rfl | assumption) | exact z_c1_n (by first | rfl | assumption) | exact z_c1_c (by first | rfl | assumption) | exact z_c1_0 (by first | rfl | assumption)) ?_
    exact nxl_loop n g r _ (Nat.le_refl _) h hw hb hn kept.rf rfl rfl
  · have hsl := x10.1.2.1
    have hle := lo_le (xs := c.2.1) (i := o)
    have hfk : FK (va_up (kdG g) g.2.1 4) r (g.2.1 + 1) := by
      refine ⟨fun j hj => ?_, by omega, x4⟩
      by_cases e : j = g.2.1
      · rw [e, va_up_self]
        exact Or.inr (Or.inl ⟨rfl, x5⟩)
      · rw [va_up_ne _ _ e]
        exact x10.fk.1 j (by omega)
    have hin : inL (va_up (kdG g) g.2.1 4) (g.2.1 + 1) = some g.2.1 := by
      rw [inL_s, va_up_self, if_pos (show hasL 4 = true from rfl)]
    refine r_aload_n dX8_nextLine_0 (by first | rfl | assumption) ?_
    refine r_callV0 dX8_nextLine_1 zm_X8_183 RS_o rfl (Nat.le_of_ble_eq_true rfl) (Nat.le_of_ble_eq_true rfl) (C_X8_reader hfk) (fun v S9 hv => ?_)
    obtain ⟨rfl, rfl⟩ := hv
    rw [hin, show oI (some g.2.1) = nI g.2.1 from rfl]
    refine r_istore_n dX8_nextLine_4 (by decide) (by first | assumption | exact z_c1_i (by first | rfl | assumption) | exact z_c1_r (by first | rfl | assumption) | exact z_c1_n (by first | rfl | assumption) | exact z_c1_c (by first | rfl | assumption) | exact z_c1_0 (by first | rfl | assumption)) ?_
    refine r_iload_n dX8_nextLine_5 (by first | rfl | assumption) ?_
    refine r_if_lt_f (tgt := 191) dX8_nextLine_6 (by decide) (fun z => absurd z (Int32.not_lt.mpr (show nI 0 ≤ nI g.2.1 from nI_le (Nat.zero_le _) (by omega)))) ?_
    refine r_aload_n dX8_nextLine_9 (by first | rfl | assumption) ?_
    refine r8_get dX8_nextLine_10 zf_X8_186 rfl ?_
    refine r_aload_n dX8_nextLine_13 (by first | rfl | assumption) ?_
    refine r8_get dX8_nextLine_14 zf_X8_28 rfl ?_
    refine r_iload_n dX8_nextLine_17 (by first | rfl | assumption) ?_
    refine r8_iald dX8_nextLine_18 (by decide) (rfl) (by first | assumption | exact (show _ < 65536 by omega) | exact (show _ < 1100 by omega) | exact (show _ < 24 by omega) | exact (show _ < 2100 by omega) | exact (show _ < 6600 by omega) | exact (show _ < 1110 by omega)) ?_
    rw [x7, x6]
    refine r_icmp_lt_f (tgt := 191) dX8_nextLine_19 (by decide) (fun z => absurd z (Int32.not_lt.mpr (nI_le (Nat.le_refl _) (by omega)))) ?_
    refine r_aload_n dX8_nextLine_22 (by first | rfl | assumption) ?_
    refine r8_get dX8_nextLine_23 zf_X8_142 rfl ?_
    refine r_if_ne_f (tgt := 191) dX8_nextLine_26 (by decide) (by rw [hb]) ?_
    refine r_aload_n dX8_nextLine_29 (by first | rfl | assumption) ?_
    refine r8_get dX8_nextLine_30 zf_X8_139 rfl ?_
    refine r_ic (1) dX8_nextLine_33 rfl ?_
    rw [x4]
    refine r_isub dX8_nextLine_34 ?_
    refine r_iload_n dX8_nextLine_35 (by first | rfl | assumption) ?_
    rw [nI_p1]
    refine r_icmp_eq_t (tgt := 47) dX8_nextLine_36 (by decide) (rfl) ?_
    refine r_aload_n dX8_nextLine_47 (by first | rfl | assumption) ?_
    refine r8_get dX8_nextLine_48 zf_X8_40 rfl ?_
    refine r_iload_n dX8_nextLine_51 (by first | rfl | assumption) ?_
    refine r_dup2 dX8_nextLine_52 rfl rfl ?_
    refine r8_iald dX8_nextLine_53 (by decide) (rfl) (by first | assumption | exact (show _ < 65536 by omega) | exact (show _ < 1100 by omega) | exact (show _ < 24 by omega) | exact (show _ < 2100 by omega) | exact (show _ < 6600 by omega) | exact (show _ < 1110 by omega)) ?_
    refine r_ic (1) dX8_nextLine_54 rfl ?_
    refine r_isub dX8_nextLine_55 ?_
    refine r8_iast dX8_nextLine_56 (by decide) (rfl) (by first | assumption | exact (show _ < 65536 by omega) | exact (show _ < 1100 by omega) | exact (show _ < 24 by omega) | exact (show _ < 2100 by omega) | exact (show _ < 6600 by omega) | exact (show _ < 1110 by omega)) ?_
    generalize r.2.1 174 g.2.1 - 1 = t
    have e169 : (rA r 174 g.2.1 t).2.1 169 g.2.1 = r.2.1 169 g.2.1 := by rw [rA_o (by decide)]
    have hT : TP (rA r 174 g.2.1 t) c.2.1 := ⟨x10.1.1, hsl, by rw [rA_o (by decide)]; exact x10.1.2.2⟩
    have l114 : ∀ L : Nat → Option Value, L 0 = some (.ref 165) → L 1 = some (.int (nI g.2.1)) → Ru (d + 2) mX8_nextLine 114 L [] (RS S (rA r 174 g.2.1 t)) (z_en mX8_nextLine (nlP n S r c c1 g1 out)) := by
      intro L l0 l1
      refine r_aload_n dX8_nextLine_114 (by first | rfl | assumption) ?_
      refine r_aload_n dX8_nextLine_115 (by first | rfl | assumption) ?_
      refine r8_get dX8_nextLine_116 zf_X8_24 rfl ?_
      refine r_iload_n dX8_nextLine_119 (by first | rfl | assumption) ?_
      refine r8_iald dX8_nextLine_120 (by decide) (rfl) (by first | assumption | exact (show _ < 65536 by omega) | exact (show _ < 1100 by omega) | exact (show _ < 24 by omega) | exact (show _ < 2100 by omega) | exact (show _ < 6600 by omega) | exact (show _ < 1110 by omega)) ?_
      rw [e169]
      refine r_ic (4) dX8_nextLine_121 rfl ?_
      refine r_icmp_ne_f (tgt := 140) dX8_nextLine_122 (by decide) (x5) ?_
      refine r_aload_n dX8_nextLine_125 (by first | rfl | assumption) ?_
      refine r_aload_n dX8_nextLine_126 (by first | rfl | assumption) ?_
      refine r8_get dX8_nextLine_127 zf_X8_28 rfl ?_
      refine r_iload_n dX8_nextLine_130 (by first | rfl | assumption) ?_
      refine r8_iald dX8_nextLine_131 (by decide) (rfl) (by first | assumption | exact (show _ < 65536 by omega) | exact (show _ < 1100 by omega) | exact (show _ < 24 by omega) | exact (show _ < 2100 by omega) | exact (show _ < 6600 by omega) | exact (show _ < 1110 by omega)) ?_
      rw [rA_o (c2 := 170) (by decide), x6]
      refine r_callV1 dX8_nextLine_132 zm_X8_163 RS_o rfl (Nat.le_of_ble_eq_true rfl) (Nat.le_of_ble_eq_true rfl) (C_X8_endOfLine hT (show lo c.2.1 o ≤ 2000 by omega)) (fun v S9 hv => ?_)
      obtain ⟨rfl, rfl⟩ := hv
      refine r_ic (1) dX8_nextLine_135 rfl ?_
      refine r_iadd dX8_nextLine_136 ?_
      rw [nI_1]
      refine r_goto (tgt := 146) dX8_nextLine_137 (by decide) ?_
      refine r8_put dX8_nextLine_146 zf_X8_186 (Nat.le_of_ble_eq_true rfl) rfl (⟨rfl, rfl⟩) ?_
      refine r_aload_n dX8_nextLine_149 (by first | rfl | assumption) ?_
      refine r_aload_n dX8_nextLine_150 (by first | rfl | assumption) ?_
      refine r8_get dX8_nextLine_151 zf_X8_24 rfl ?_
      refine r_iload_n dX8_nextLine_154 (by first | rfl | assumption) ?_
      refine r8_iald dX8_nextLine_155 (by decide) (rfl) (by first | assumption | exact (show _ < 65536 by omega) | exact (show _ < 1100 by omega) | exact (show _ < 24 by omega) | exact (show _ < 2100 by omega) | exact (show _ < 6600 by omega) | exact (show _ < 1110 by omega)) ?_
      rw [show (rF (rA r 174 g.2.1 t) 5 (nI (eol c.2.1 (lo c.2.1 o) + 1))).2.1 169 g.2.1 = r.2.1 169 g.2.1 from e169]
      refine r_ic (4) dX8_nextLine_156 rfl ?_
      refine r_icmp_ne_f (tgt := 169) dX8_nextLine_157 (by decide) (x5) ?_
      refine r_aload_n dX8_nextLine_160 (by first | rfl | assumption) ?_
      refine r8_get dX8_nextLine_161 zf_X8_31 rfl ?_
      refine r_iload_n dX8_nextLine_164 (by first | rfl | assumption) ?_
      refine r8_iald dX8_nextLine_165 (by decide) (rfl) (by first | assumption | exact (show _ < 65536 by omega) | exact (show _ < 1100 by omega) | exact (show _ < 24 by omega) | exact (show _ < 2100 by omega) | exact (show _ < 6600 by omega) | exact (show _ < 1110 by omega)) ?_
      rw [show (rF (rA r 174 g.2.1 t) 5 (nI (eol c.2.1 (lo c.2.1 o) + 1))).2.1 171 g.2.1 = nI (o + 1) from (congrFun (rA_o (r := r) (c := 174) (c2 := 171) (by decide)) g.2.1).trans x9]
      refine r_goto (tgt := 175) dX8_nextLine_166 (by decide) ?_
      refine r8_put dX8_nextLine_175 zf_X8_136 (Nat.le_of_ble_eq_true rfl) rfl (⟨rfl, rfl⟩) ?_
      refine r_aload_n dX8_nextLine_178 (by first | rfl | assumption) ?_
      refine r_iload_n dX8_nextLine_179 (by first | rfl | assumption) ?_
      refine r8_put dX8_nextLine_180 zf_X8_139 (Nat.le_of_ble_eq_true rfl) rfl (⟨rfl, rfl⟩) ?_
      have hR : REL c g (rF (rF (rF (rA r 174 g.2.1 t) 5 (nI (eol c.2.1 (lo c.2.1 o) + 1))) 6 (nI (o + 1))) 19 (nI g.2.1)) := (x10.dr (j := g.2.1) (t := t) (Nat.le_refl _)).fr (fun _ _ => rfl) rfl (fun _ _ => ⟨fun _ _ _ => rfl, rfl, rfl, rfl⟩) (fun _ _ _ => rfl)
      have hx : eqx [5, 6, 19] [174] r (rF (rF (rF (rA r 174 g.2.1 t) 5 (nI (eol c.2.1 (lo c.2.1 o) + 1))) 6 (nI (o + 1))) 19 (nI g.2.1)) := (((eqx.a (by decide)).tr (eqx.f (by decide))).tr (eqx.f (by decide))).tr (eqx.f (by decide))
      refine r_aload_n dX8_nextLine_183 (by first | rfl | assumption) ?_
      refine r_callV0 dX8_nextLine_184 zm_X8_183 RS_o rfl (Nat.le_of_ble_eq_true rfl) (Nat.le_of_ble_eq_true rfl) (C_X8_reader hR.fk) (fun v S9 hv => ?_)
      obtain ⟨rfl, rfl⟩ := hv
      refine r_istore_n dX8_nextLine_187 (by decide) (by first | assumption | exact z_c1_i (by first | rfl | assumption) | exact z_c1_r (by first | rfl | assumption) | exact z_c1_n (by first | rfl | assumption) | exact z_c1_c (by first | rfl | assumption) | exact z_c1_0 (by first | rfl | assumption)) ?_
      refine r_goto (tgt := 5) dX8_nextLine_188 (by decide) ?_
      exact nxl_loop n g _ _ (Nat.le_refl _) hR hw hb hn (hx.kp (by decide) (by decide)) l0 rfl
    refine r_aload_n dX8_nextLine_57 (by first | rfl | assumption) ?_
    refine r8_get dX8_nextLine_58 zf_X8_24 rfl ?_
    refine r_iload_n dX8_nextLine_61 (by first | rfl | assumption) ?_
    refine r8_iald dX8_nextLine_62 (by decide) (rfl) (by first | assumption | exact (show _ < 65536 by omega) | exact (show _ < 1100 by omega) | exact (show _ < 24 by omega) | exact (show _ < 2100 by omega) | exact (show _ < 6600 by omega) | exact (show _ < 1110 by omega)) ?_
    rw [e169]
    refine r_ic (4) dX8_nextLine_63 rfl ?_
    refine r_icmp_ne_f (tgt := 114) dX8_nextLine_64 (by decide) (x5) ?_
    refine r_aload_n dX8_nextLine_67 (by first | rfl | assumption) ?_
    refine r8_get dX8_nextLine_68 zf_X8_40 rfl ?_
    refine r_iload_n dX8_nextLine_71 (by first | rfl | assumption) ?_
    refine r8_iald dX8_nextLine_72 (by decide) (rfl) (by first | assumption | exact (show _ < 65536 by omega) | exact (show _ < 1100 by omega) | exact (show _ < 24 by omega) | exact (show _ < 2100 by omega) | exact (show _ < 6600 by omega) | exact (show _ < 1110 by omega)) ?_
    rw [rA_at]
    by_cases q : t ≤ 0
    · refine r_if_le_t (tgt := 114) dX8_nextLine_73 (by decide) (q) ?_
      exact l114 _ rfl rfl
    · refine r_if_le_f (tgt := 114) dX8_nextLine_73 (by decide) (q) ?_
      refine r_aload_n dX8_nextLine_76 (by first | rfl | assumption) ?_
      refine r8_get dX8_nextLine_77 zf_X8_34 rfl ?_
      refine r_iload_n dX8_nextLine_80 (by first | rfl | assumption) ?_
      refine r8_iald dX8_nextLine_81 (by decide) (rfl) (by first | assumption | exact (show _ < 65536 by omega) | exact (show _ < 1100 by omega) | exact (show _ < 24 by omega) | exact (show _ < 2100 by omega) | exact (show _ < 6600 by omega) | exact (show _ < 1110 by omega)) ?_
      refine r_aload_n dX8_nextLine_82 (by first | rfl | assumption) ?_
      refine r8_get dX8_nextLine_83 zf_X8_28 rfl ?_
      refine r_iload_n dX8_nextLine_86 (by first | rfl | assumption) ?_
      refine r8_iald dX8_nextLine_87 (by decide) (rfl) (by first | assumption | exact (show _ < 65536 by omega) | exact (show _ < 1100 by omega) | exact (show _ < 24 by omega) | exact (show _ < 2100 by omega) | exact (show _ < 6600 by omega) | exact (show _ < 1110 by omega)) ?_
      rw [rA_o (c2 := 172) (by decide), rA_o (c2 := 170) (by decide), x8, x6]
      refine r_icmp_ge_t (tgt := 114) dX8_nextLine_88 (by decide) (nI_le (Nat.le_refl _) (by omega)) ?_
      exact l114 _ rfl rfl
/-- once it ends, there is no next line -/
theorem C_X8_nlDN (h : DN c1 g1 r) : Rc (d + 2) mX8_nextLine [.ref 165] (RS S r) (fun v S1 => S1 = RS S r ∧ v = some (.int 0)) := by
  obtain ⟨⟨kd, n, hk⟩, hT, h⟩ := h
  have hn20 := hk.2.1
  refine Rc.of ?_
  rcases h with ⟨h1, h2, h3, -⟩ | ⟨h1, -, -, ⟨kd2, n2, hk2, hin, -⟩, a, h5, h6, h7⟩
  · have hne : ¬ r.1 11 = 0 := by rw [h1]; exact nI_ne0 h2 (by omega)
    have l191 : ∀ L : Nat → Option Value, L 0 = some (.ref 165) → Ru (d + 2) mX8_nextLine 191 L [] (RS S r) (z_en mX8_nextLine (fun v S1 => S1 = RS S r ∧ v = some (.int 0))) := by
      intro L l0
      refine r_aload_n dX8_nextLine_191 (by first | rfl | assumption) ?_
      refine r8_get dX8_nextLine_192 zf_X8_142 rfl ?_
      refine r_if_ne_t (tgt := 209) dX8_nextLine_195 (by decide) (hne) ?_
      refine r_ic (0) dX8_nextLine_209 rfl ?_
      refine r_ireturn dX8_nextLine_210 _ rfl rfl ⟨rfl, rfl⟩
    refine r_aload_n dX8_nextLine_0 (by first | rfl | assumption) ?_
    refine r_callV0 dX8_nextLine_1 zm_X8_183 RS_o rfl (Nat.le_of_ble_eq_true rfl) (Nat.le_of_ble_eq_true rfl) (C_X8_reader hk) (fun v S9 hv => ?_)
    obtain ⟨rfl, rfl⟩ := hv
    cases hj : inL kd n with
    | none =>
      refine r_istore_n dX8_nextLine_4 (by decide) (by first | assumption | exact z_c1_i (by first | rfl | assumption) | exact z_c1_r (by first | rfl | assumption) | exact z_c1_n (by first | rfl | assumption) | exact z_c1_c (by first | rfl | assumption) | exact z_c1_0 (by first | rfl | assumption)) ?_
      refine r_iload_n dX8_nextLine_5 (by first | rfl | assumption) ?_
      refine r_if_lt_t (tgt := 191) dX8_nextLine_6 (by decide) (show (-1 : Int32) < 0 by decide) ?_
      exact l191 _ rfl
    | some j =>
      have hj2 := inL_lt _ _ hj
      rw [show oI (some j) = nI j from rfl]
      refine r_istore_n dX8_nextLine_4 (by decide) (by first | assumption | exact z_c1_i (by first | rfl | assumption) | exact z_c1_r (by first | rfl | assumption) | exact z_c1_n (by first | rfl | assumption) | exact z_c1_c (by first | rfl | assumption) | exact z_c1_0 (by first | rfl | assumption)) ?_
      refine r_iload_n dX8_nextLine_5 (by first | rfl | assumption) ?_
      refine r_if_lt_f (tgt := 191) dX8_nextLine_6 (by decide) (fun z => absurd z (Int32.not_lt.mpr (show nI 0 ≤ nI j from nI_le (Nat.zero_le _) (by omega)))) ?_
      refine r_aload_n dX8_nextLine_9 (by first | rfl | assumption) ?_
      refine r8_get dX8_nextLine_10 zf_X8_186 rfl ?_
      refine r_aload_n dX8_nextLine_13 (by first | rfl | assumption) ?_
      refine r8_get dX8_nextLine_14 zf_X8_28 rfl ?_
      refine r_iload_n dX8_nextLine_17 (by first | rfl | assumption) ?_
      refine r8_iald dX8_nextLine_18 (by decide) (rfl) (by first | assumption | exact (show _ < 65536 by omega) | exact (show _ < 1100 by omega) | exact (show _ < 24 by omega) | exact (show _ < 2100 by omega) | exact (show _ < 6600 by omega) | exact (show _ < 1110 by omega)) ?_
      refine r_icmp_lt (tgt := 191) dX8_nextLine_19 (by decide) (fun c19 => ?_) (fun c19 => ?_)
      · exact l191 _ rfl
      · refine r_aload_n dX8_nextLine_22 (by first | rfl | assumption) ?_
        refine r8_get dX8_nextLine_23 zf_X8_142 rfl ?_
        refine r_if_ne_t (tgt := 191) dX8_nextLine_26 (by decide) (hne) ?_
        exact l191 _ rfl
  · refine r_aload_n dX8_nextLine_0 (by first | rfl | assumption) ?_
    refine r_callV0 dX8_nextLine_1 zm_X8_183 RS_o rfl (Nat.le_of_ble_eq_true rfl) (Nat.le_of_ble_eq_true rfl) (C_X8_reader hk2) (fun v S9 hv => ?_)
    obtain ⟨rfl, rfl⟩ := hv
    rw [hin]
    refine r_istore_n dX8_nextLine_4 (by decide) (by first | assumption | exact z_c1_i (by first | rfl | assumption) | exact z_c1_r (by first | rfl | assumption) | exact z_c1_n (by first | rfl | assumption) | exact z_c1_c (by first | rfl | assumption) | exact z_c1_0 (by first | rfl | assumption)) ?_
    refine r_iload_n dX8_nextLine_5 (by first | rfl | assumption) ?_
    refine r_if_lt_t (tgt := 191) dX8_nextLine_6 (by decide) (show (-1 : Int32) < 0 by decide) ?_
    refine r_aload_n dX8_nextLine_191 (by first | rfl | assumption) ?_
    refine r8_get dX8_nextLine_192 zf_X8_142 rfl ?_
    refine r_if_ne_f (tgt := 209) dX8_nextLine_195 (by decide) (h1) ?_
    refine r_aload_n dX8_nextLine_198 (by first | rfl | assumption) ?_
    refine r8_get dX8_nextLine_199 zf_X8_186 rfl ?_
    refine r_aload_n dX8_nextLine_202 (by first | rfl | assumption) ?_
    refine r8_get dX8_nextLine_203 zf_X8_160 rfl ?_
    rw [h5, hT.1]
    refine r_icmp_lt_f (tgt := 211) dX8_nextLine_206 (by decide) (fun z => absurd z (Int32.not_lt.mpr (nI_le h6 (by omega)))) ?_
    refine r_ic (0) dX8_nextLine_209 rfl ?_
    refine r_ireturn dX8_nextLine_210 _ rfl rfl ⟨rfl, rfl⟩
set_option maxRecDepth 10000 in
theorem C_X8_linesOfSource {xs : List Nat} (h : TP r xs) : Rc (d + 1) mX8_linesOfSource [.ref 165] (RS S r) (fun v S1 => S1 = RS S r ∧ v = some (.int (nI (lnz xs).length))) := by
  have hsl := h.2.1
  have hcl : (lnz xs).length ≤ xs.length := cnt_len (c := ((0, 0), xs, [], [], (0, 0, 0), (false, false), (0, .null, 0)))
  have loop : ∀ (m i a : Nat) (L : Nat → Option Value), i + m = (lnz xs).length → atL xs i a → L 0 = some (.ref 165) → L 1 = some (.int (nI i)) → L 2 = some (.int (nI a)) → Ru (d + 1) mX8_linesOfSource 4 L [] (RS S r) (z_en mX8_linesOfSource (fun v S1 => S1 = RS S r ∧ v = some (.int (nI (lnz xs).length)))) := by
    intro m
    induction m with
    | zero =>
      intro i a L hm ha l0 l1 l2
      have := ha.2.2.2 (by omega)
      have := ha.2.1
      refine r_iload_n dX8_linesOfSource_4 (by first | rfl | assumption) ?_
      refine r_aload_n dX8_linesOfSource_5 (by first | rfl | assumption) ?_
      refine r8_get dX8_linesOfSource_6 zf_X8_160 rfl ?_
      rw [h.1]
      refine r_icmp_ge_t (tgt := 26) dX8_linesOfSource_9 (by decide) (nI_le (a := xs.length) (b := a) (by omega) (by omega)) ?_
      refine r_iload_n dX8_linesOfSource_26 (by first | rfl | assumption) ?_
      refine r_ireturn dX8_linesOfSource_27 _ rfl rfl ⟨rfl, by rw [show (lnz xs).length = i by omega]⟩
    | succ m ih =>
      intro i a L hm ha l0 l1 l2
      have e := ha.2.2.1 (by omega)
      have := (lo_in (xs := xs) (i := i) (by omega)).1
      have := ha.2.1
      refine r_iload_n dX8_linesOfSource_4 (by first | rfl | assumption) ?_
      refine r_aload_n dX8_linesOfSource_5 (by first | rfl | assumption) ?_
      refine r8_get dX8_linesOfSource_6 zf_X8_160 rfl ?_
      rw [h.1]
      refine r_icmp_ge_f (tgt := 26) dX8_linesOfSource_9 (by decide) (nI_ge (a := a) (b := xs.length) (by omega) (by omega)) ?_
      refine r_inc (nI (i + 1)) dX8_linesOfSource_12 (by first | rfl | assumption) (by decide) (by first | assumption | exact z_c1_i (by first | rfl | assumption) | exact z_c1_r (by first | rfl | assumption) | exact z_c1_n (by first | rfl | assumption) | exact z_c1_c (by first | rfl | assumption) | exact z_c1_0 (by first | rfl | assumption)) (nI_1 _) ?_
      refine r_aload_n dX8_linesOfSource_15 (by first | rfl | assumption) ?_
      refine r_iload_n dX8_linesOfSource_16 (by first | rfl | assumption) ?_
      refine r_callV1 dX8_linesOfSource_17 zm_X8_163 RS_o rfl (Nat.le_of_ble_eq_true rfl) (Nat.le_of_ble_eq_true rfl) (C_X8_endOfLine h (show a ≤ 2000 by omega)) (fun v S9 hv => ?_)
      obtain ⟨rfl, rfl⟩ := hv
      refine r_ic (1) dX8_linesOfSource_20 rfl ?_
      refine r_iadd dX8_linesOfSource_21 ?_
      rw [nI_1]
      refine r_istore_n dX8_linesOfSource_22 (by decide) (by first | assumption | exact z_c1_i (by first | rfl | assumption) | exact z_c1_r (by first | rfl | assumption) | exact z_c1_n (by first | rfl | assumption) | exact z_c1_c (by first | rfl | assumption) | exact z_c1_0 (by first | rfl | assumption)) ?_
      refine r_goto (tgt := 4) dX8_linesOfSource_23 (by decide) ?_
      exact ih (i + 1) (eol xs a + 1) _ (by omega) (atL_next ha (by omega) hsl) l0 rfl rfl
  refine Rc.of ?_
  refine r_ic (0) dX8_linesOfSource_0 rfl ?_
  refine r_istore_n dX8_linesOfSource_1 (by decide) (by first | assumption | exact z_c1_i (by first | rfl | assumption) | exact z_c1_r (by first | rfl | assumption) | exact z_c1_n (by first | rfl | assumption) | exact z_c1_c (by first | rfl | assumption) | exact z_c1_0 (by first | rfl | assumption)) ?_
  refine r_ic (0) dX8_linesOfSource_2 rfl ?_
  refine r_istore_n dX8_linesOfSource_3 (by decide) (by first | assumption | exact z_c1_i (by first | rfl | assumption) | exact z_c1_r (by first | rfl | assumption) | exact z_c1_n (by first | rfl | assumption) | exact z_c1_c (by first | rfl | assumption) | exact z_c1_0 (by first | rfl | assumption)) ?_
  refine loop (lnz xs).length 0 0 _ (Nat.zero_add _) ⟨Nat.zero_le _, by decide, fun z => ?_, fun z => ?_⟩ rfl rfl rfl
  · have := (lnOK_get _ _ 0 (lnz_OK xs) z).2.2.1 rfl
    unfold lo
    rw [if_pos z]
    exact this.symm
  · have h0 := lnz_OK xs
    rw [List.length_eq_zero_iff.mp z.symm] at h0
    exact h0
end
