/-! a macro is asked for -/
def cMac (c : zD) (g : zG) (q : zMa) : zG × Nat := if g.2.1 = 20 then (gFl g 6, 2) else if q.2.2.1.length < (gat c.2.2.2.1).length then (gFl (gPt g g.2.1 ((g.2.2.1 g.2.1).1, (g.2.2.1 g.2.1).2.1, (g.2.2.1 g.2.1).2.2.1, (g.2.2.1 g.2.1).2.2.2.1, some q, g.2.2.2.2, gat c.2.2.2.1)) 6, 2) else
  (((q.2.1.2.2.1, g.1.2.1, g.1.2.2.1 + 1, g.1.2.2.2), g.2.1 + 1, va_up g.2.2.1 g.2.1 (6, (q.2.1.2.2.1, q.2.1.2.2.2, g.1.1, g.1.2.2.2.1), (g.2.2.1 g.2.1).2.2.1, g.1.2.2.1, some q, g.2.2.2.2, gat c.2.2.2.1), g.2.2.2), 0)
section
variable {d : Nat} {S : zS} {E : zE} {lB lI : List Nat} {B C N : Nat} {Z : Nat → zC} {c : zD} {g : zG}
set_option maxRecDepth 10000 in
set_option maxHeartbeats 1000000 in
theorem C_X7_readMacroLines {q : zMa} (h : XI S E lB lI B C Z N c g) (hq : q ∈ g.2.2.2.1) : Rc (d + 6) mX7_readMacroLines [.ref 1, .ref q.1] S (stP lB lI B C Z N c (cMac c g q)) := by
  have hx := h.x0
  have hn0 := h.n0.1
  have hsz := h.sz
  have ht0 := h.t0
  have hl0 := h.l0
  have htl := h.tl
  obtain ⟨hm1, hm2, hm3⟩ := h.m0 q hq
  obtain ⟨⟨b1, hm4⟩, ⟨b2, hm5⟩, hm6, hm7⟩ := h.2.2.1.2.2.2.2.2.2.2.2.2 q hq
  refine Rc.of ?_
  refine r_aload_n dX7_readMacroLines_0 (by first | rfl | assumption) ?_
  refine r_getf dX7_readMacroLines_1 zf_X7_37 (by assumption) rfl ?_
  refine r_callV0 dX7_readMacroLines_4 zm_X7_253 (by assumption) rfl (Nat.le_of_ble_eq_true rfl) (Nat.le_of_ble_eq_true rfl) (C_X3_spare h.n0) (fun v S9 hv => ?_)
  obtain ⟨hS9, rfl⟩ := hv
  subst hS9
  by_cases q0 : g.2.1 = 20
  · have e : cMac c g q = (gFl g 6, 2) := if_pos q0
    rw [e, q0, nAt_20]
    refine r_astore_nN dX7_readMacroLines_7 (by decide) (by first | exact z_c1_i (by first | rfl | assumption) | exact z_c1_r (by first | rfl | assumption) | exact z_c1_n (by first | rfl | assumption) | exact z_c1_c (by first | rfl | assumption) | exact z_c1_0 (by first | rfl | assumption)) ?_
    refine r_aload_nN dX7_readMacroLines_8 (by first | rfl | assumption) ?_
    refine r_ifnullN (tgt := 28) dX7_readMacroLines_9 (by decide) ?_
    refine r_aload_n dX7_readMacroLines_28 (by first | rfl | assumption) ?_
    refine r_bp (6) dX7_readMacroLines_29 rfl ?_
    refine r_callV1 dX7_readMacroLines_31 zm_X7_132 (by assumption) rfl (Nat.le_of_ble_eq_true rfl) (Nat.le_of_ble_eq_true rfl) (C_X7_tell (k := 6) h) (fun v S8 hv => ?_)
    obtain ⟨rfl, h3⟩ := hv
    refine r_ireturn dX7_readMacroLines_34 _ rfl rfl ⟨rfl, E, h3⟩
  have hs20 : g.2.1 < 20 := by omega
  have e1 := show cMac c g q = _ from if_neg q0
  rw [nAt_in hs20]
  have hpj : S9.2.2 (ptN g.2.1) = pcl (g.2.2.1 g.2.1) g.2.1 := h.p0 g.2.1 hs20
  have hpt := ptN_lt hs20
  obtain ⟨hg1, hg2, hg3⟩ := h.2.2.1.2.2.2.2.2.2.2.2.1 g.2.1 hs20
  obtain ⟨hk, hst, hen⟩ := h.2.2.1.2.2.2.2.2.2.2.1
  refine r_astore_n dX7_readMacroLines_7 (by decide) (by first | exact z_c1_i (by first | rfl | assumption) | exact z_c1_r (by first | rfl | assumption) | exact z_c1_n (by first | rfl | assumption) | exact z_c1_c (by first | rfl | assumption) | exact z_c1_0 (by first | rfl | assumption)) ?_
  refine r_aload_n dX7_readMacroLines_8 (by first | rfl | assumption) ?_
  refine r_ifnull dX7_readMacroLines_9 ?_
  have hpj0 := hpj
  rw [pcl_eq] at hpj0
  refine r_aload_n dX7_readMacroLines_12 (by first | rfl | assumption) ?_
  refine r_aload_n dX7_readMacroLines_13 (by first | rfl | assumption) ?_
  refine r_getf dX7_readMacroLines_14 zf_X7_21 (by assumption) rfl ?_
  refine r_aload_n dX7_readMacroLines_17 (by first | rfl | assumption) ?_
  refine r_getf dX7_readMacroLines_18 zf_X7_30 (by assumption) rfl ?_
  refine r_aload_n dX7_readMacroLines_21 (by first | rfl | assumption) ?_
  refine r_callV3 dX7_readMacroLines_22 zm_X7_256 (by assumption) rfl (Nat.le_of_ble_eq_true rfl) (Nat.le_of_ble_eq_true rfl) (V_X4_gather hpj (by omega) ht0 (by omega) hm1 hm2 h.1 hg1 h.2.2.1.2.2.2.1 (h.1.bl h.2.2.1.2.2.2.1).1 (show 11 ≠ 23 + 7 * g.2.1 by omega) hg2 hg3 hk hst hen hm4 (show 27 + 7 * g.2.1 ≠ 25 + 7 * g.2.1 by omega) (by omega) (by omega) (by omega) (by omega) (by omega) (by omega) (by omega) (by omega) htl) (fun v S1 hv => ?_)
  obtain ⟨rfl, hp1, E1, hP1, ee1, ee2⟩ := hv
  rw [List.length_map]
  have h1 := h.ga (j := g.2.1) (q := ((g.2.2.1 g.2.1).1, (g.2.2.1 g.2.1).2.1, (g.2.2.1 g.2.1).2.2.1, (g.2.2.1 g.2.1).2.2.2.1, some q, g.2.2.2.2, gat c.2.2.2.1)) hs20 hP1 hp1 ee1 ee2
  have hx1 := h1.x0
  by_cases q1 : q.2.2.1.length < (gat c.2.2.2.1).length
  · rw [if_pos q1] at e1
    rw [e1]
    refine r_if_ne_f (tgt := 35) dX7_readMacroLines_25 (by decide) (by rw [decide_eq_false (Nat.not_le.mpr q1)]; rfl) ?_
    refine r_aload_n dX7_readMacroLines_28 (by first | rfl | assumption) ?_
    refine r_bp (6) dX7_readMacroLines_29 rfl ?_
    refine r_callV1 dX7_readMacroLines_31 zm_X7_132 (by assumption) rfl (Nat.le_of_ble_eq_true rfl) (Nat.le_of_ble_eq_true rfl) (C_X7_tell (k := 6) h1) (fun v S8 hv => ?_)
    obtain ⟨rfl, h3⟩ := hv
    refine r_ireturn dX7_readMacroLines_34 _ rfl rfl ⟨rfl, E1, h3⟩
  rw [if_neg q1] at e1
  rw [e1]
  refine r_if_ne_t (tgt := 35) dX7_readMacroLines_25 (by decide) (by rw [decide_eq_true (Nat.le_of_not_lt q1)]; decide) ?_
  have hp1' : S1.2.2 (ptN g.2.1) = pcl ((g.2.2.1 g.2.1).1, (g.2.2.1 g.2.1).2.1, (g.2.2.1 g.2.1).2.2.1, (g.2.2.1 g.2.1).2.2.2.1, some q, g.2.2.2.2, gat c.2.2.2.1) g.2.1 := hp1
  rw [pcl_eq] at hp1'
  refine r_aload_n dX7_readMacroLines_35 (by first | rfl | assumption) ?_
  refine r_aload_n dX7_readMacroLines_36 (by first | rfl | assumption) ?_
  refine r_getf dX7_readMacroLines_37 zf_X7_76 (by assumption) rfl ?_
  refine r_putf dX7_readMacroLines_40 zf_X7_260 (by assumption) (Nat.le_of_ble_eq_true rfl) ⟨rfl, rfl⟩ ?_
  have h2 := h1.p (j := g.2.1) (q := ((g.2.2.1 g.2.1).1, (g.2.2.1 g.2.1).2.1, (g.2.2.1 g.2.1).2.2.1, g.1.2.2.1, some q, g.2.2.2.2, gat c.2.2.2.1)) hs20 (by rw [show (g.1, g.2.1, va_up g.2.2.1 g.2.1 ((g.2.2.1 g.2.1).1, (g.2.2.1 g.2.1).2.1, (g.2.2.1 g.2.1).2.2.1, (g.2.2.1 g.2.1).2.2.2.1, some q, g.2.2.2.2, gat c.2.2.2.1), g.2.2.2).2.2.1 g.2.1 = ((g.2.2.1 g.2.1).1, (g.2.2.1 g.2.1).2.1, (g.2.2.1 g.2.1).2.2.1, (g.2.2.1 g.2.1).2.2.2.1, some q, g.2.2.2.2, gat c.2.2.2.1) from va_up_self _ _ _])
  show Ru _ _ _ _ _ (z_put S1 (ptN g.2.1) (pcl ((g.2.2.1 g.2.1).1, (g.2.2.1 g.2.1).2.1, (g.2.2.1 g.2.1).2.2.1, g.1.2.2.1, some q, g.2.2.2.2, gat c.2.2.2.1) g.2.1)) _
  generalize z_put S1 (ptN g.2.1) (pcl ((g.2.2.1 g.2.1).1, (g.2.2.1 g.2.1).2.1, (g.2.2.1 g.2.1).2.2.1, g.1.2.2.1, some q, g.2.2.2.2, gat c.2.2.2.1) g.2.1) = S2 at h2 ⊢
  have e9 : va_up (va_up g.2.2.1 g.2.1 ((g.2.2.1 g.2.1).1, (g.2.2.1 g.2.1).2.1, (g.2.2.1 g.2.1).2.2.1, (g.2.2.1 g.2.1).2.2.2.1, some q, g.2.2.2.2, gat c.2.2.2.1)) g.2.1 ((g.2.2.1 g.2.1).1, (g.2.2.1 g.2.1).2.1, (g.2.2.1 g.2.1).2.2.1, g.1.2.2.1, some q, g.2.2.2.2, gat c.2.2.2.1) = va_up g.2.2.1 g.2.1 ((g.2.2.1 g.2.1).1, (g.2.2.1 g.2.1).2.1, (g.2.2.1 g.2.1).2.2.1, g.1.2.2.1, some q, g.2.2.2.2, gat c.2.2.2.1) := up2
  have h2 : XI S2 E1 lB lI B C Z N c (g.1, g.2.1, va_up (va_up g.2.2.1 g.2.1 ((g.2.2.1 g.2.1).1, (g.2.2.1 g.2.1).2.1, (g.2.2.1 g.2.1).2.2.1, (g.2.2.1 g.2.1).2.2.2.1, some q, g.2.2.2.2, gat c.2.2.2.1)) g.2.1 ((g.2.2.1 g.2.1).1, (g.2.2.1 g.2.1).2.1, (g.2.2.1 g.2.1).2.2.1, g.1.2.2.1, some q, g.2.2.2.2, gat c.2.2.2.1), g.2.2.2) := h2
  rw [e9] at h2
  have hx2 := h2.x0
  refine r_aload_n dX7_readMacroLines_43 (by first | rfl | assumption) ?_
  refine r_dup dX7_readMacroLines_44 rfl ?_
  refine r_getf dX7_readMacroLines_45 zf_X7_76 (by assumption) rfl ?_
  refine r_ic (1) dX7_readMacroLines_48 rfl ?_
  refine r_iadd dX7_readMacroLines_49 ?_
  rw [nI_1]
  refine r_putf dX7_readMacroLines_50 zf_X7_76 (by assumption) (Nat.le_of_ble_eq_true rfl) ⟨rfl, rfl⟩ ?_
  have h3 := h2.x (rp := c.2.2.2.2.2.1) (sc := (g.1.1, g.1.2.1, g.1.2.2.1 + 1, g.1.2.2.2))
  show Ru _ _ _ _ _ (z_put S2 1 (xcl c ((g.1.1, g.1.2.1, g.1.2.2.1 + 1, g.1.2.2.2), g.2.1, va_up g.2.2.1 g.2.1 ((g.2.2.1 g.2.1).1, (g.2.2.1 g.2.1).2.1, (g.2.2.1 g.2.1).2.2.1, g.1.2.2.1, some q, g.2.2.2.2, gat c.2.2.2.1), g.2.2.2))) _
  have h3 : XI (z_put S2 1 (xcl c ((g.1.1, g.1.2.1, g.1.2.2.1 + 1, g.1.2.2.2), g.2.1, va_up g.2.2.1 g.2.1 ((g.2.2.1 g.2.1).1, (g.2.2.1 g.2.1).2.1, (g.2.2.1 g.2.1).2.2.1, g.1.2.2.1, some q, g.2.2.2.2, gat c.2.2.2.1), g.2.2.2))) E1 lB lI B C Z N c ((g.1.1, g.1.2.1, g.1.2.2.1 + 1, g.1.2.2.2), g.2.1, va_up g.2.2.1 g.2.1 ((g.2.2.1 g.2.1).1, (g.2.2.1 g.2.1).2.1, (g.2.2.1 g.2.1).2.2.1, g.1.2.2.1, some q, g.2.2.2.2, gat c.2.2.2.1), g.2.2.2) := h3
  generalize z_put S2 1 (xcl c ((g.1.1, g.1.2.1, g.1.2.2.1 + 1, g.1.2.2.2), g.2.1, va_up g.2.2.1 g.2.1 ((g.2.2.1 g.2.1).1, (g.2.2.1 g.2.1).2.1, (g.2.2.1 g.2.1).2.2.1, g.1.2.2.1, some q, g.2.2.2.2, gat c.2.2.2.1), g.2.2.2)) = S3 at h3 ⊢
  have hx3 := h3.x0
  have hm9 : S3.2.2 q.1 = .inr (3, [.int (nI q.2.1.1), .int (nI q.2.1.2.1), .int (nI q.2.1.2.2.1), .int (nI q.2.1.2.2.2), .ref q.2.2.2.1, .ref q.2.2.2.2]) := (h3.m0 q hq).1
  have hp3 : S3.2.2 (ptN g.2.1) = pcl (va_up g.2.2.1 g.2.1 ((g.2.2.1 g.2.1).1, (g.2.2.1 g.2.1).2.1, (g.2.2.1 g.2.1).2.2.1, g.1.2.2.1, some q, g.2.2.2.2, gat c.2.2.2.1) g.2.1) g.2.1 := h3.p0 g.2.1 hs20
  rw [va_up_self] at hp3
  have hp3' := hp3
  rw [pcl_eq] at hp3'
  refine r_aload_n dX7_readMacroLines_53 (by first | rfl | assumption) ?_
  refine r_aload_n dX7_readMacroLines_54 (by first | rfl | assumption) ?_
  refine r_getf dX7_readMacroLines_55 zf_X7_263 (by assumption) rfl ?_
  refine r_aload_n dX7_readMacroLines_58 (by first | rfl | assumption) ?_
  refine r_getf dX7_readMacroLines_59 zf_X7_266 (by assumption) rfl ?_
  refine r_aload_n dX7_readMacroLines_62 (by first | rfl | assumption) ?_
  refine r_getf dX7_readMacroLines_63 zf_X7_69 (by assumption) rfl ?_
  refine r_aload_n dX7_readMacroLines_66 (by first | rfl | assumption) ?_
  refine r_getf dX7_readMacroLines_67 zf_X7_79 (by assumption) rfl ?_
  refine r_callV4 dX7_readMacroLines_70 zm_X7_234 (by assumption) rfl (Nat.le_of_ble_eq_true rfl) (Nat.le_of_ble_eq_true rfl) (C_X4_lay hp3) (fun v S5 hv => ?_)
  obtain ⟨rfl, rfl⟩ := hv
  have h4 := h3.p (j := g.2.1) (q := ((g.2.2.1 g.2.1).1, (q.2.1.2.2.1, q.2.1.2.2.2, g.1.1, g.1.2.2.2.1), (g.2.2.1 g.2.1).2.2.1, g.1.2.2.1, some q, g.2.2.2.2, gat c.2.2.2.1)) hs20 (by show _ = (va_up g.2.2.1 g.2.1 ((g.2.2.1 g.2.1).1, (g.2.2.1 g.2.1).2.1, (g.2.2.1 g.2.1).2.2.1, g.1.2.2.1, some q, g.2.2.2.2, gat c.2.2.2.1) g.2.1).2.2.2.2.2; rw [va_up_self])
  show Ru _ _ _ _ _ (z_put S3 (ptN g.2.1) (pcl ((g.2.2.1 g.2.1).1, (q.2.1.2.2.1, q.2.1.2.2.2, g.1.1, g.1.2.2.2.1), (g.2.2.1 g.2.1).2.2.1, g.1.2.2.1, some q, g.2.2.2.2, gat c.2.2.2.1) g.2.1)) _
  generalize z_put S3 (ptN g.2.1) (pcl ((g.2.2.1 g.2.1).1, (q.2.1.2.2.1, q.2.1.2.2.2, g.1.1, g.1.2.2.2.1), (g.2.2.1 g.2.1).2.2.1, g.1.2.2.1, some q, g.2.2.2.2, gat c.2.2.2.1) g.2.1) = S4 at h4 ⊢
  have e10 : va_up (va_up g.2.2.1 g.2.1 ((g.2.2.1 g.2.1).1, (g.2.2.1 g.2.1).2.1, (g.2.2.1 g.2.1).2.2.1, g.1.2.2.1, some q, g.2.2.2.2, gat c.2.2.2.1)) g.2.1 ((g.2.2.1 g.2.1).1, (q.2.1.2.2.1, q.2.1.2.2.2, g.1.1, g.1.2.2.2.1), (g.2.2.1 g.2.1).2.2.1, g.1.2.2.1, some q, g.2.2.2.2, gat c.2.2.2.1) = va_up g.2.2.1 g.2.1 ((g.2.2.1 g.2.1).1, (q.2.1.2.2.1, q.2.1.2.2.2, g.1.1, g.1.2.2.2.1), (g.2.2.1 g.2.1).2.2.1, g.1.2.2.1, some q, g.2.2.2.2, gat c.2.2.2.1) := up2
  have h4 : XI S4 E1 lB lI B C Z N c ((g.1.1, g.1.2.1, g.1.2.2.1 + 1, g.1.2.2.2), g.2.1, va_up (va_up g.2.2.1 g.2.1 ((g.2.2.1 g.2.1).1, (g.2.2.1 g.2.1).2.1, (g.2.2.1 g.2.1).2.2.1, g.1.2.2.1, some q, g.2.2.2.2, gat c.2.2.2.1)) g.2.1 ((g.2.2.1 g.2.1).1, (q.2.1.2.2.1, q.2.1.2.2.2, g.1.1, g.1.2.2.2.1), (g.2.2.1 g.2.1).2.2.1, g.1.2.2.1, some q, g.2.2.2.2, gat c.2.2.2.1), g.2.2.2) := h4
  rw [e10] at h4
  have hx4 := h4.x0
  have hn4 := h4.n0.1
  refine r_aload_n dX7_readMacroLines_73 (by first | rfl | assumption) ?_
  refine r_getf dX7_readMacroLines_74 zf_X7_37 (by assumption) rfl ?_
  refine r_bp (6) dX7_readMacroLines_77 rfl ?_
  refine r_callV1 dX7_readMacroLines_79 zm_X7_212 (by assumption) rfl (Nat.le_of_ble_eq_true rfl) (Nat.le_of_ble_eq_true rfl) (C_X7_open (x := 6) h4 hs20) (fun v S6 hv => ?_)
  obtain ⟨rfl, h5⟩ := hv
  have e11 : va_up (va_up g.2.2.1 g.2.1 ((g.2.2.1 g.2.1).1, (q.2.1.2.2.1, q.2.1.2.2.2, g.1.1, g.1.2.2.2.1), (g.2.2.1 g.2.1).2.2.1, g.1.2.2.1, some q, g.2.2.2.2, gat c.2.2.2.1)) g.2.1 (nI 6, ((va_up g.2.2.1 g.2.1 ((g.2.2.1 g.2.1).1, (q.2.1.2.2.1, q.2.1.2.2.2, g.1.1, g.1.2.2.2.1), (g.2.2.1 g.2.1).2.2.1, g.1.2.2.1, some q, g.2.2.2.2, gat c.2.2.2.1)) g.2.1).2) = va_up g.2.2.1 g.2.1 (6, (q.2.1.2.2.1, q.2.1.2.2.2, g.1.1, g.1.2.2.2.1), (g.2.2.1 g.2.1).2.2.1, g.1.2.2.1, some q, g.2.2.2.2, gat c.2.2.2.1) := by
    rw [va_up_self, up2]
    rfl
  have h5 : XI S6 E1 lB lI B C Z N c ((g.1.1, g.1.2.1, g.1.2.2.1 + 1, g.1.2.2.2), g.2.1 + 1, va_up (va_up g.2.2.1 g.2.1 ((g.2.2.1 g.2.1).1, (q.2.1.2.2.1, q.2.1.2.2.2, g.1.1, g.1.2.2.2.1), (g.2.2.1 g.2.1).2.2.1, g.1.2.2.1, some q, g.2.2.2.2, gat c.2.2.2.1)) g.2.1 (nI 6, ((va_up g.2.2.1 g.2.1 ((g.2.2.1 g.2.1).1, (q.2.1.2.2.1, q.2.1.2.2.2, g.1.1, g.1.2.2.2.1), (g.2.2.1 g.2.1).2.2.1, g.1.2.2.1, some q, g.2.2.2.2, gat c.2.2.2.1)) g.2.1).2), g.2.2.2) := h5
  rw [e11] at h5
  have hx5 := h5.x0
  have hm10 : S6.2.2 q.1 = .inr (3, [.int (nI q.2.1.1), .int (nI q.2.1.2.1), .int (nI q.2.1.2.2.1), .int (nI q.2.1.2.2.2), .ref q.2.2.2.1, .ref q.2.2.2.2]) := (h5.m0 q hq).1
  refine r_pop dX7_readMacroLines_82 rfl ?_
  refine r_aload_n dX7_readMacroLines_83 (by first | rfl | assumption) ?_
  refine r_aload_n dX7_readMacroLines_84 (by first | rfl | assumption) ?_
  refine r_getf dX7_readMacroLines_85 zf_X7_263 (by assumption) rfl ?_
  refine r_putf dX7_readMacroLines_88 zf_X7_69 (by assumption) (Nat.le_of_ble_eq_true rfl) ⟨rfl, rfl⟩ ?_
  refine r_ic (0) dX7_readMacroLines_91 rfl ?_
  refine r_ireturn dX7_readMacroLines_92 _ rfl rfl ⟨rfl, E1, h5.pos (p := q.2.1.2.2.1)⟩
end
