section
variable {d : Nat} {S : zS} {r0 : zR} {c c1 : zD} {g1 : zG} {out : Nat}
set_option maxRecDepth 10000 in
set_option maxHeartbeats 4000000 in
theorem nxl_loop {N : Nat} : ∀ (n : Nat) (g : zG) (r : zR) (L : Nat → Option Value), n ≤ N → REL c g r → WF c g → r.1 11 = 0 → rnR n c g c1 g1 out → kept r0 r → L 0 = some (.ref 165) → L 1 = some (.int (oI (iL g))) → Ru (d + 2) mX8_nextLine 5 L [] (RS S r) (z_en mX8_nextLine (nlP N S r0 c c1 g1 out)) := by
  intro n
  induction n with
  | zero => intro g r L hN h hw hb hn; cases hn
  | succ n ih =>
    intro g r L hN h hw hb hn hkp l0 l1
    have hrn : ∃ m, m ≤ N ∧ rnR m c g c1 g1 out := ⟨n + 1, hN, hn⟩
    obtain ⟨c2, g2, o, hst, -, hn⟩ := hn
    obtain ⟨a, ha1, ha2⟩ := h.2.1
    have hlim := hw.lim
    have hsl := h.1.2.1
    have ha9 := ha2.2.1
    have hlo := lo_le (xs := c.2.1) (i := lim7 c g)
    rcases hst with ⟨hp, -⟩ | ⟨hp, he, hcc⟩
    · -- a line is at hand
      have hpc : g.1.1 < (lnz c.2.1).length := by unfold cnt at hlim; omega
      have ea := ha2.2.2.1 hpc
      have hli := lo_in hpc
      have l191 : ∀ L : Nat → Option Value, L 0 = some (.ref 165) → Ru (d + 2) mX8_nextLine 191 L [] (RS S r) (z_en mX8_nextLine (nlP N S r0 c c1 g1 out)) := by
        intro L l0
        refine r_aload_n dX8_nextLine_191 (by first | rfl | assumption) ?_
        refine r8_get dX8_nextLine_192 zf_X8_142 rfl ?_
        refine r_if_ne_f (tgt := 209) dX8_nextLine_195 (by decide) (by rw [hb]) ?_
        refine r_aload_n dX8_nextLine_198 (by first | rfl | assumption) ?_
        refine r8_get dX8_nextLine_199 zf_X8_186 rfl ?_
        refine r_aload_n dX8_nextLine_202 (by first | rfl | assumption) ?_
        refine r8_get dX8_nextLine_203 zf_X8_160 rfl ?_
        rw [ha1, h.1.1]
        refine r_icmp_lt_t (tgt := 211) dX8_nextLine_206 (by decide) (nI_lt (a := a) (b := c.2.1.length) (by omega) (by omega)) ?_
        refine r_aload_n dX8_nextLine_211 (by first | rfl | assumption) ?_
        refine r_aload_n dX8_nextLine_212 (by first | rfl | assumption) ?_
        refine r8_get dX8_nextLine_213 zf_X8_186 rfl ?_
        refine r8_put dX8_nextLine_216 zf_X8_193 (Nat.le_of_ble_eq_true rfl) rfl (⟨rfl, rfl⟩) ?_
        refine r_aload_n dX8_nextLine_219 (by first | rfl | assumption) ?_
        refine r_aload_n dX8_nextLine_220 (by first | rfl | assumption) ?_
        refine r_aload_n dX8_nextLine_221 (by first | rfl | assumption) ?_
        refine r8_get dX8_nextLine_222 zf_X8_186 rfl ?_
        rw [show (rF r 7 (r.1 5)).1 5 = nI a from ha1]
        have hT7 : TP (rF r 7 (r.1 5)) c.2.1 := h.1.mv (eqx.f (F := [7]) (A := []) (by decide)) (by decide) (by decide)
        refine r_callV1 dX8_nextLine_225 zm_X8_163 RS_o rfl (Nat.le_of_ble_eq_true rfl) (Nat.le_of_ble_eq_true rfl) (C_X8_endOfLine hT7 (show a ≤ 2000 by omega)) (fun v S9 hv => ?_)
        obtain ⟨rfl, rfl⟩ := hv
        refine r8_put dX8_nextLine_228 zf_X8_196 (Nat.le_of_ble_eq_true rfl) rfl (⟨rfl, rfl⟩) ?_
        refine r_aload_n dX8_nextLine_231 (by first | rfl | assumption) ?_
        refine r_aload_n dX8_nextLine_232 (by first | rfl | assumption) ?_
        refine r8_get dX8_nextLine_233 zf_X8_196 rfl ?_
        refine r_ic (1) dX8_nextLine_236 rfl ?_
        rw [show (rF (rF r 7 (r.1 5)) 8 (nI (eol c.2.1 a))).1 8 = nI (eol c.2.1 a) from rfl]
        refine r_iadd dX8_nextLine_237 ?_
        rw [nI_1]
        refine r8_put dX8_nextLine_238 zf_X8_186 (Nat.le_of_ble_eq_true rfl) rfl (⟨rfl, rfl⟩) ?_
        refine r_aload_n dX8_nextLine_241 (by first | rfl | assumption) ?_
        refine r_dup dX8_nextLine_242 rfl ?_
        refine r8_get dX8_nextLine_243 zf_X8_136 rfl ?_
        refine r_ic (1) dX8_nextLine_246 rfl ?_
        rw [show (rF (rF (rF r 7 (r.1 5)) 8 (nI (eol c.2.1 a))) 5 (nI (eol c.2.1 a + 1))).1 6 = nI g.1.1 from h.2.2.1]
        refine r_iadd dX8_nextLine_247 ?_
        rw [nI_1]
        refine r8_put dX8_nextLine_248 zf_X8_136 (Nat.le_of_ble_eq_true rfl) rfl (⟨rfl, rfl⟩) ?_
        refine r_ic (1) dX8_nextLine_251 rfl ?_
        have hx : eqx [5, 6, 7, 8] [] r (rF (rF (rF (rF r 7 (r.1 5)) 8 (nI (eol c.2.1 a))) 5 (nI (eol c.2.1 a + 1))) 6 (nI (g.1.1 + 1))) := (((eqx.f (by decide)).tr (eqx.f (by decide))).tr (eqx.f (by decide))).tr (eqx.f (by decide))
        have h8 : REL c g (rF (rF r 7 (r.1 5)) 8 (nI (eol c.2.1 a))) := h.mv ((eqx.f (F := [7, 8]) (A := []) (by decide)).tr (eqx.f (by decide))) (by decide) (fun x hx => by cases hx)
        refine r_ireturn dX8_nextLine_252 _ rfl rfl ⟨_, rfl, hkp.tr (hx.kp (by decide) (by decide)), Or.inl ⟨rfl, g, hw, hp, hrn, h8.at ((eqx.f (by decide)).tr (eqx.f (by decide))) rfl (atL_next ha2 hpc hsl) rfl, ?_, ?_, hb⟩⟩
        · show r.1 5 = _
          rw [ha1, ea]
        · show nI (eol c.2.1 a) = _
          rw [ea]
      refine r_iload_n dX8_nextLine_5 (by first | rfl | assumption) ?_
      cases hj : iL g with
      | none =>
        refine r_if_lt_t (tgt := 191) dX8_nextLine_6 (by decide) (show (-1 : Int32) < 0 by decide) ?_
        exact l191 _ l0
      | some j =>
        have hs := h.stop hj
        rw [hj] at l1
        have l1' : L 1 = some (.int (nI j)) := l1
        refine r_if_lt_f (tgt := 191) dX8_nextLine_6 (by decide) (fun z => absurd z (Int32.not_lt.mpr (show nI 0 ≤ nI j from nI_le (Nat.zero_le _) (by omega)))) ?_
        refine r_aload_n dX8_nextLine_9 (by first | rfl | assumption) ?_
        refine r8_get dX8_nextLine_10 zf_X8_186 rfl ?_
        refine r_aload_n dX8_nextLine_13 (by first | rfl | assumption) ?_
        refine r8_get dX8_nextLine_14 zf_X8_28 rfl ?_
        refine r_iload_n dX8_nextLine_17 (by first | rfl | assumption) ?_
        refine r8_iald dX8_nextLine_18 (by decide) (rfl) (by first | assumption | exact (show _ < 65536 by omega) | exact (show _ < 1100 by omega) | exact (show _ < 24 by omega) | exact (show _ < 2100 by omega) | exact (show _ < 6600 by omega) | exact (show _ < 1110 by omega)) ?_
        rw [ha1, hs.1]
        have := (atL_lt ha2 (show lim7 c g ≤ (lnz c.2.1).length from hlim)).mpr hp
        refine r_icmp_lt_t (tgt := 191) dX8_nextLine_19 (by decide) (nI_lt this (by omega)) ?_
        exact l191 _ l0
    · -- lines end
      rw [hcc] at hn
      have e1 : g2 = (cEnd c g).1 := congrArg Prod.fst he
      have e2 : o = (cEnd c g).2 := congrArg Prod.snd he
      refine r_iload_n dX8_nextLine_5 (by first | rfl | assumption) ?_
      cases hj : iL g with
      | none =>
        have hpe : g.1.1 = (lnz c.2.1).length := by
          have : lim7 c g = cnt c := by unfold lim7; rw [hj]
          have h1 := hw.1
          unfold cnt at this
          omega
        have hal := ha2.2.2.2 hpe
        refine r_if_lt_t (tgt := 191) dX8_nextLine_6 (by decide) (show (-1 : Int32) < 0 by decide) ?_
        refine r_aload_n dX8_nextLine_191 (by first | rfl | assumption) ?_
        refine r8_get dX8_nextLine_192 zf_X8_142 rfl ?_
        refine r_if_ne_f (tgt := 209) dX8_nextLine_195 (by decide) (by rw [hb]) ?_
        refine r_aload_n dX8_nextLine_198 (by first | rfl | assumption) ?_
        refine r8_get dX8_nextLine_199 zf_X8_186 rfl ?_
        refine r_aload_n dX8_nextLine_202 (by first | rfl | assumption) ?_
        refine r8_get dX8_nextLine_203 zf_X8_160 rfl ?_
        rw [ha1, h.1.1]
        refine r_icmp_lt_f (tgt := 211) dX8_nextLine_206 (by decide) (fun z => absurd z (Int32.not_lt.mpr (nI_le hal (by omega)))) ?_
        refine r_ic (0) dX8_nextLine_209 rfl ?_
        by_cases q0 : g.2.1 = 0
        · have e3 : cEnd c g = (g, 2) := if_pos q0
          rw [e3] at e1 e2
          rcases hn with ⟨-, -, hg1, ho⟩ | ⟨z, -⟩
          · refine r_ireturn dX8_nextLine_210 _ rfl rfl ⟨r, rfl, hkp, Or.inr ⟨rfl, by rw [ho, e2], Or.inr ⟨by rw [hg1, e1]; exact hw.2.2.2.2.2.2.1, hb, by rw [h.2.2.2.2.2.2.1, q0]; rfl, h.2.2.2.2.2.1⟩⟩⟩
          · rw [e2] at z; cases z
        · have ht : hasL (kdG g (g.2.1 - 1)) = false := inL_none _ hj _ (by omega)
          have e3 : cEnd c g = (gUn c g, 2) := by
            unfold cEnd
            rw [if_neg q0, if_pos ht, if_pos (by rw [hj]; rfl)]
          rw [e3] at e1 e2
          rcases hn with ⟨-, hc1, hg1, ho⟩ | ⟨z, -⟩
          · refine r_ireturn dX8_nextLine_210 _ rfl rfl ⟨r, rfl, hkp, Or.inr ⟨rfl, by rw [ho, e2], Or.inl ?_⟩⟩
            rw [hg1, e1, hc1]
            exact ⟨⟨_, _, h.fk⟩, h.1, Or.inr ⟨hb, rfl, rfl, ⟨_, _, h.fk, hj, Or.inl (by omega)⟩, a, ha1, hal, by omega⟩⟩
          · rw [e2] at z; cases z
      | some j =>
        have hj2 := inL_lt _ _ hj
        have hs := h.stop hj
        rw [hj] at l1
        have l1' : L 1 = some (.int (nI j)) := l1
        have hge : lo c.2.1 (lim7 c g) ≤ a := Nat.le_of_not_lt (fun z => hp ((atL_lt ha2 (show lim7 c g ≤ (lnz c.2.1).length from hlim)).mp z))
        have h20 := h.2.2.2.2.2.2.2.1
        obtain ⟨k, hk⟩ : ∃ k, g.2.1 = k + 1 := ⟨g.2.1 - 1, by omega⟩
        refine r_if_lt_f (tgt := 191) dX8_nextLine_6 (by decide) (fun z => absurd z (Int32.not_lt.mpr (show nI 0 ≤ nI j from nI_le (Nat.zero_le _) (by omega)))) ?_
        refine r_aload_n dX8_nextLine_9 (by first | rfl | assumption) ?_
        refine r8_get dX8_nextLine_10 zf_X8_186 rfl ?_
        refine r_aload_n dX8_nextLine_13 (by first | rfl | assumption) ?_
        refine r8_get dX8_nextLine_14 zf_X8_28 rfl ?_
        refine r_iload_n dX8_nextLine_17 (by first | rfl | assumption) ?_
        refine r8_iald dX8_nextLine_18 (by decide) (rfl) (by first | assumption | exact (show _ < 65536 by omega) | exact (show _ < 1100 by omega) | exact (show _ < 24 by omega) | exact (show _ < 2100 by omega) | exact (show _ < 6600 by omega) | exact (show _ < 1110 by omega)) ?_
        rw [ha1, hs.1]
        refine r_icmp_lt_f (tgt := 191) dX8_nextLine_19 (by decide) (fun z => absurd z (Int32.not_lt.mpr (nI_le hge (by omega)))) ?_
        refine r_aload_n dX8_nextLine_22 (by first | rfl | assumption) ?_
        refine r8_get dX8_nextLine_23 zf_X8_142 rfl ?_
        refine r_if_ne_f (tgt := 191) dX8_nextLine_26 (by decide) (by rw [hb]) ?_
        refine r_aload_n dX8_nextLine_29 (by first | rfl | assumption) ?_
        refine r8_get dX8_nextLine_30 zf_X8_139 rfl ?_
        refine r_ic (1) dX8_nextLine_33 rfl ?_
        rw [h.2.2.2.2.2.2.1, hk]
        refine r_isub dX8_nextLine_34 ?_
        refine r_iload_n dX8_nextLine_35 (by first | rfl | assumption) ?_
        rw [nI_p1]
        by_cases q1 : hasL (kdG g k) = false
        · have hjk : j ≠ k := fun z => by rw [z, q1] at hj2; cases hj2.2
          refine r_icmp_eq_f (tgt := 47) dX8_nextLine_36 (by decide) (fun z => hjk ((nI_eq (by omega) (by omega)).mp z).symm) ?_
          have e3 : cEnd c g = (gFl g 6, 2) := by
            unfold cEnd
            rw [if_neg (by omega), show g.2.1 - 1 = k by omega, if_pos q1, if_neg (by rw [hj]; exact Bool.false_ne_true)]
          rw [e3] at e1 e2
          refine r_aload_n dX8_nextLine_39 (by first | rfl | assumption) ?_
          refine r_bp (6) dX8_nextLine_40 rfl ?_
          refine r_callV1 dX8_nextLine_42 zm_X8_189 RS_o rfl (Nat.le_of_ble_eq_true rfl) (Nat.le_of_ble_eq_true rfl) (C_X8_fl (k := 6) h (fun z => by rw [hj] at z; cases z) (eqx.rf (A := [])) hb (by decide)) (fun v S9 hv => ?_)
          obtain ⟨rfl, r2, rfl, hB⟩ := hv
          rcases hn with ⟨-, hc1, hg1, ho⟩ | ⟨z, -⟩
          · refine r_ic (0) dX8_nextLine_45 rfl ?_
            refine r_ireturn dX8_nextLine_46 _ rfl rfl ⟨r2, rfl, hkp.tr (hB.1.kp (by decide) (by decide)), Or.inr ⟨rfl, by rw [ho, e2], Or.inl ?_⟩⟩
            rw [hg1, e1, hc1]
            exact hB.dn h (by decide) (by decide)
          · rw [e2] at z; cases z
        · have q1 : hasL (kdG g k) = true := Bool.not_eq_false _ |>.mp q1
          have hjk : j = k := by
            have : inL (kdG g) g.2.1 = some k := by rw [hk, inL_s, if_pos q1]
            have hj : inL (kdG g) g.2.1 = some j := hj
            rw [this] at hj
            exact (Option.some.inj hj).symm
          subst hjk
          refine r_icmp_eq_t (tgt := 47) dX8_nextLine_36 (by decide) (rfl) ?_
          have elm : lim7 c g = (g.2.2.1 j).2.1.2.1 := by unfold lim7; rw [hj]
          have hpt := hw.2.1 j hj2.1 hj2.2
          have hx174 : ∀ t, eqx [] [174] r (rA r 174 j t) := fun t => eqx.a (by decide)
          have ew := (sEnd (c := c) (g := g) hw hp)
          -- the loop goes on
          have go : ∀ (r3 : zR) (g3 : zG) (L : Nat → Option Value), cEnd c g = (g3, 0) → REL c g3 r3 → r3.1 11 = 0 → kept r r3 → L 0 = some (.ref 165) → Ru (d + 2) mX8_nextLine 183 L [] (RS S r3) (z_en mX8_nextLine (nlP N S r0 c c1 g1 out)) := by
            intro r3 g3 L e3 h3 hb3 hk3 l0
            rw [e3] at e1 e2 ew
            refine r_aload_n dX8_nextLine_183 (by first | rfl | assumption) ?_
            refine r_callV0 dX8_nextLine_184 zm_X8_183 RS_o rfl (Nat.le_of_ble_eq_true rfl) (Nat.le_of_ble_eq_true rfl) (C_X8_reader h3.fk) (fun v S9 hv => ?_)
            obtain ⟨rfl, rfl⟩ := hv
            refine r_istore_n dX8_nextLine_187 (by decide) (by first | assumption | exact z_c1_i (by first | rfl | assumption) | exact z_c1_r (by first | rfl | assumption) | exact z_c1_n (by first | rfl | assumption) | exact z_c1_c (by first | rfl | assumption) | exact z_c1_0 (by first | rfl | assumption)) ?_
            refine r_goto (tgt := 5) dX8_nextLine_188 (by decide) ?_
            rcases hn with ⟨z, -⟩ | ⟨-, hn⟩
            · exact absurd e2 z
            · rw [e1] at hn
              exact ih g3 r3 _ (by omega) h3 (ew (show (0 : Nat) ≠ 2 by decide)).1 hb3 hn (hkp.tr hk3) l0 rfl
          refine r_aload_n dX8_nextLine_47 (by first | rfl | assumption) ?_
          refine r8_get dX8_nextLine_48 zf_X8_40 rfl ?_
          refine r_iload_n dX8_nextLine_51 (by first | rfl | assumption) ?_
          refine r_dup2 dX8_nextLine_52 rfl rfl ?_
          refine r8_iald dX8_nextLine_53 (by decide) (rfl) (by first | assumption | exact (show _ < 65536 by omega) | exact (show _ < 1100 by omega) | exact (show _ < 24 by omega) | exact (show _ < 2100 by omega) | exact (show _ < 6600 by omega) | exact (show _ < 1110 by omega)) ?_
          refine r_ic (1) dX8_nextLine_54 rfl ?_
          refine r_isub dX8_nextLine_55 ?_
          refine r8_iast dX8_nextLine_56 (by decide) (rfl) (by first | assumption | exact (show _ < 65536 by omega) | exact (show _ < 1100 by omega) | exact (show _ < 24 by omega) | exact (show _ < 2100 by omega) | exact (show _ < 6600 by omega) | exact (show _ < 1110 by omega)) ?_
          generalize ht9 : r.2.1 174 j - 1 = t
          have e169 : (rA r 174 j t).2.1 169 j = r.2.1 169 j := by rw [rA_o (by decide)]
          -- lines are left
          have l114 : ¬ (kdG g j = 4 ∧ 0 < (g.2.2.1 j).2.2.1 - 1) → ∀ L : Nat → Option Value, L 0 = some (.ref 165) → L 1 = some (.int (nI j)) → Ru (d + 2) mX8_nextLine 114 L [] (RS S (rA r 174 j t)) (z_en mX8_nextLine (nlP N S r0 c c1 g1 out)) := by
            intro q L l0 l1
            have e3 : cEnd c g = (gCl (gPos (gPt g j ((g.2.2.1 j).1, (g.2.2.1 j).2.1, (g.2.2.1 j).2.2.1 - 1, (g.2.2.1 j).2.2.2)) (g.2.2.1 j).2.1.2.2.1), 0) := by
              unfold cEnd
              rw [if_neg (by omega), show g.2.1 - 1 = j by omega, if_neg (by rw [q1]; exact Bool.noConfusion), if_neg q]
            have hz : REL c (gSz g j) (rF r 19 (nI j)) := h.sz (by omega) (eqx.f (by decide)) rfl
            have hz2 := hz.dr (j := j) (t := t) (Nat.le_refl _)
            have hz3 := hz2.gone (k := j) (q := ((g.2.2.1 j).1, (g.2.2.1 j).2.1, (g.2.2.1 j).2.2.1 - 1, (g.2.2.1 j).2.2.2)) (Nat.le_refl _)
            have fin : ∀ (b : Nat) (L : Nat → Option Value), atL c.2.1 (g.2.2.1 j).2.1.2.2.1 b → L 0 = some (.ref 165) → L 1 = some (.int (nI j)) → Ru (d + 2) mX8_nextLine 178 L [] (RS S (rF (rF (rA r 174 j t) 5 (nI b)) 6 (nI (g.2.2.1 j).2.1.2.2.1))) (z_en mX8_nextLine (nlP N S r0 c c1 g1 out)) := by
              intro b L hb9 l0 l1
              refine r_aload_n dX8_nextLine_178 (by first | rfl | assumption) ?_
              refine r_iload_n dX8_nextLine_179 (by first | rfl | assumption) ?_
              refine r8_put dX8_nextLine_180 zf_X8_139 (Nat.le_of_ble_eq_true rfl) rfl (⟨rfl, rfl⟩) ?_
              have hz4 := hz3.at (r' := rF (rF (rA (rF r 19 (nI j)) 174 j t) 5 (nI b)) 6 (nI (g.2.2.1 j).2.1.2.2.1)) ((eqx.f (by decide)).tr (eqx.f (by decide))) rfl hb9 rfl
              refine go _ _ _ e3 ?_ hb ((((hx174 t).mono (F2 := [5, 6, 19]) (A2 := [174]) (fun _ z => by cases z) (fun _ z => z)).tr (((eqx.f (by decide)).tr (eqx.f (by decide))).tr (eqx.f (by decide)))).kp (by decide) (by decide)) l0
              have e4 : gCl (gPos (gPt g j ((g.2.2.1 j).1, (g.2.2.1 j).2.1, (g.2.2.1 j).2.2.1 - 1, (g.2.2.1 j).2.2.2)) (g.2.2.1 j).2.1.2.2.1) = gPos (gPt (gSz g j) j ((g.2.2.1 j).1, (g.2.2.1 j).2.1, (g.2.2.1 j).2.2.1 - 1, (g.2.2.1 j).2.2.2)) (g.2.2.1 j).2.1.2.2.1 := by
                show (_, g.2.1 - 1, _) = (_, j, _)
                rw [show g.2.1 - 1 = j by omega]
                rfl
              rw [e4]
              refine hz4.fr (fun x hx => ?_) rfl (fun i hi => ⟨fun _ _ _ => rfl, rfl, rfl, rfl⟩) (fun _ _ _ => rfl)
              simp only [List.mem_cons, List.not_mem_nil, or_false] at hx
              rcases hx with rfl | rfl | rfl | rfl | rfl | rfl | rfl | rfl <;> rfl
            refine r_aload_n dX8_nextLine_114 (by first | rfl | assumption) ?_
            refine r_aload_n dX8_nextLine_115 (by first | rfl | assumption) ?_
            refine r8_get dX8_nextLine_116 zf_X8_24 rfl ?_
            refine r_iload_n dX8_nextLine_119 (by first | rfl | assumption) ?_
            refine r8_iald dX8_nextLine_120 (by decide) (rfl) (by first | assumption | exact (show _ < 65536 by omega) | exact (show _ < 1100 by omega) | exact (show _ < 24 by omega) | exact (show _ < 2100 by omega) | exact (show _ < 6600 by omega) | exact (show _ < 1110 by omega)) ?_
            rw [e169]
            refine r_ic (4) dX8_nextLine_121 rfl ?_
            rcases h.2.2.2.2.2.2.2.2.1 j hj2.1 with ⟨z, -⟩ | ⟨z1, z2, z3, z4, z5, z6, z7, z8, z9, z10⟩ | ⟨z1, z2, z3, z4, ⟨b, z5, z5'⟩, z6, -⟩
            · rcases z with z | z <;> rw [z] at q1 <;> cases q1
            · refine r_icmp_ne_f (tgt := 140) dX8_nextLine_122 (by decide) (z2) ?_
              refine r_aload_n dX8_nextLine_125 (by first | rfl | assumption) ?_
              refine r_aload_n dX8_nextLine_126 (by first | rfl | assumption) ?_
              refine r8_get dX8_nextLine_127 zf_X8_28 rfl ?_
              refine r_iload_n dX8_nextLine_130 (by first | rfl | assumption) ?_
              refine r8_iald dX8_nextLine_131 (by decide) (rfl) (by first | assumption | exact (show _ < 65536 by omega) | exact (show _ < 1100 by omega) | exact (show _ < 24 by omega) | exact (show _ < 2100 by omega) | exact (show _ < 6600 by omega) | exact (show _ < 1110 by omega)) ?_
              rw [rA_o (c2 := 170) (by decide), z3]
              refine r_callV1 dX8_nextLine_132 zm_X8_163 RS_o rfl (Nat.le_of_ble_eq_true rfl) (Nat.le_of_ble_eq_true rfl) (C_X8_endOfLine (h.1.mv (hx174 t) (by decide) (by decide)) (show lo c.2.1 (g.2.2.1 j).2.1.2.1 ≤ 2000 by have := lo_le (xs := c.2.1) (i := (g.2.2.1 j).2.1.2.1); omega)) (fun v S9 hv => ?_)
              obtain ⟨rfl, rfl⟩ := hv
              refine r_ic (1) dX8_nextLine_135 rfl ?_
              refine r_iadd dX8_nextLine_136 ?_
              rw [nI_1]
              refine r_goto (tgt := 146) dX8_nextLine_137 (by decide) ?_
              refine r8_put dX8_nextLine_146 zf_X8_186 (Nat.le_of_ble_eq_true rfl) rfl (⟨rfl, rfl⟩) ?_
              refine r_aload_n dX8_nextLine_149 (by first | rfl | assumption) ?_
              refine r_aload_n dX8_nextLine_150 (by first | rfl | assumption) ?_
              refine r8_get dX8_nextLine_151 zf_X8_24 rfl ?_
              refine r_iload_n dX8_nextLine_154 (by first | rfl | assumption) ?_
              refine r8_iald dX8_nextLine_155 (by decide) (rfl) (by first | assumption | exact (show _ < 65536 by omega) | exact (show _ < 1100 by omega) | exact (show _ < 24 by omega) | exact (show _ < 2100 by omega) | exact (show _ < 6600 by omega) | exact (show _ < 1110 by omega)) ?_
              rw [show (rF (rA r 174 j t) 5 (nI (eol c.2.1 (lo c.2.1 (g.2.2.1 j).2.1.2.1) + 1))).2.1 169 j = r.2.1 169 j from e169]
              refine r_ic (4) dX8_nextLine_156 rfl ?_
              refine r_icmp_ne_f (tgt := 169) dX8_nextLine_157 (by decide) (z2) ?_
              refine r_aload_n dX8_nextLine_160 (by first | rfl | assumption) ?_
              refine r8_get dX8_nextLine_161 zf_X8_31 rfl ?_
              refine r_iload_n dX8_nextLine_164 (by first | rfl | assumption) ?_
              refine r8_iald dX8_nextLine_165 (by decide) (rfl) (by first | assumption | exact (show _ < 65536 by omega) | exact (show _ < 1100 by omega) | exact (show _ < 24 by omega) | exact (show _ < 2100 by omega) | exact (show _ < 6600 by omega) | exact (show _ < 1110 by omega)) ?_
              rw [show (rF (rA r 174 j t) 5 (nI (eol c.2.1 (lo c.2.1 (g.2.2.1 j).2.1.2.1) + 1))).2.1 171 j = nI (g.2.2.1 j).2.1.2.2.1 from (congrFun (rA_o (r := r) (c := 174) (c2 := 171) (by decide)) j).trans z4]
              refine r_goto (tgt := 175) dX8_nextLine_166 (by decide) ?_
              refine r8_put dX8_nextLine_175 zf_X8_136 (Nat.le_of_ble_eq_true rfl) rfl (⟨rfl, rfl⟩) ?_
              refine fin _ _ ?_ l0 l1
              rw [z9]
              exact atL_next (atL_lo (Nat.le_of_lt z8) hsl) z8 hsl
            · refine r_icmp_ne_t (tgt := 140) dX8_nextLine_122 (by decide) (by rw [z2]; decide) ?_
              refine r_aload_n dX8_nextLine_140 (by first | rfl | assumption) ?_
              refine r8_get dX8_nextLine_141 zf_X8_34 rfl ?_
              refine r_iload_n dX8_nextLine_144 (by first | rfl | assumption) ?_
              refine r8_iald dX8_nextLine_145 (by decide) (rfl) (by first | assumption | exact (show _ < 65536 by omega) | exact (show _ < 1100 by omega) | exact (show _ < 24 by omega) | exact (show _ < 2100 by omega) | exact (show _ < 6600 by omega) | exact (show _ < 1110 by omega)) ?_
              rw [rA_o (c2 := 172) (by decide), z5]
              refine r8_put dX8_nextLine_146 zf_X8_186 (Nat.le_of_ble_eq_true rfl) rfl (⟨rfl, rfl⟩) ?_
              refine r_aload_n dX8_nextLine_149 (by first | rfl | assumption) ?_
              refine r_aload_n dX8_nextLine_150 (by first | rfl | assumption) ?_
              refine r8_get dX8_nextLine_151 zf_X8_24 rfl ?_
              refine r_iload_n dX8_nextLine_154 (by first | rfl | assumption) ?_
              refine r8_iald dX8_nextLine_155 (by decide) (rfl) (by first | assumption | exact (show _ < 65536 by omega) | exact (show _ < 1100 by omega) | exact (show _ < 24 by omega) | exact (show _ < 2100 by omega) | exact (show _ < 6600 by omega) | exact (show _ < 1110 by omega)) ?_
              rw [show (rF (rA r 174 j t) 5 (nI b)).2.1 169 j = r.2.1 169 j from e169]
              refine r_ic (4) dX8_nextLine_156 rfl ?_
              refine r_icmp_ne_t (tgt := 169) dX8_nextLine_157 (by decide) (by rw [z2]; decide) ?_
              refine r_aload_n dX8_nextLine_169 (by first | rfl | assumption) ?_
              refine r8_get dX8_nextLine_170 zf_X8_37 rfl ?_
              refine r_iload_n dX8_nextLine_173 (by first | rfl | assumption) ?_
              refine r8_iald dX8_nextLine_174 (by decide) (rfl) (by first | assumption | exact (show _ < 65536 by omega) | exact (show _ < 1100 by omega) | exact (show _ < 24 by omega) | exact (show _ < 2100 by omega) | exact (show _ < 6600 by omega) | exact (show _ < 1110 by omega)) ?_
              rw [show (rF (rA r 174 j t) 5 (nI b)).2.1 173 j = nI (g.2.2.1 j).2.1.2.2.1 from (congrFun (rA_o (r := r) (c := 174) (c2 := 173) (by decide)) j).trans z6]
              refine r8_put dX8_nextLine_175 zf_X8_136 (Nat.le_of_ble_eq_true rfl) rfl (⟨rfl, rfl⟩) ?_
              exact fin b _ z5' l0 l1
          refine r_aload_n dX8_nextLine_57 (by first | rfl | assumption) ?_
          refine r8_get dX8_nextLine_58 zf_X8_24 rfl ?_
          refine r_iload_n dX8_nextLine_61 (by first | rfl | assumption) ?_
          refine r8_iald dX8_nextLine_62 (by decide) (rfl) (by first | assumption | exact (show _ < 65536 by omega) | exact (show _ < 1100 by omega) | exact (show _ < 24 by omega) | exact (show _ < 2100 by omega) | exact (show _ < 6600 by omega) | exact (show _ < 1110 by omega)) ?_
          rw [e169]
          refine r_ic (4) dX8_nextLine_63 rfl ?_
          rcases h.2.2.2.2.2.2.2.2.1 j hj2.1 with ⟨z, -⟩ | ⟨z1, z2, z3, z4, z5, z6, z7, z8, z9, z10⟩ | ⟨z1, z2, -⟩
          · rcases z with z | z <;> rw [z] at q1 <;> cases q1
          · have et : t = (g.2.2.1 j).2.2.1 - 1 := by rw [← ht9, z7]
            refine r_icmp_ne_f (tgt := 114) dX8_nextLine_64 (by decide) (z2) ?_
            refine r_aload_n dX8_nextLine_67 (by first | rfl | assumption) ?_
            refine r8_get dX8_nextLine_68 zf_X8_40 rfl ?_
            refine r_iload_n dX8_nextLine_71 (by first | rfl | assumption) ?_
            refine r8_iald dX8_nextLine_72 (by decide) (rfl) (by first | assumption | exact (show _ < 65536 by omega) | exact (show _ < 1100 by omega) | exact (show _ < 24 by omega) | exact (show _ < 2100 by omega) | exact (show _ < 6600 by omega) | exact (show _ < 1110 by omega)) ?_
            rw [rA_at]
            by_cases q2 : t ≤ 0
            · refine r_if_le_t (tgt := 114) dX8_nextLine_73 (by decide) (q2) ?_
              exact l114 (fun z => by rw [← et] at z; exact absurd z.2 (Int32.not_lt.mpr q2)) _ l0 l1'
            · refine r_if_le_f (tgt := 114) dX8_nextLine_73 (by decide) (q2) ?_
              refine r_aload_n dX8_nextLine_76 (by first | rfl | assumption) ?_
              refine r8_get dX8_nextLine_77 zf_X8_34 rfl ?_
              refine r_iload_n dX8_nextLine_80 (by first | rfl | assumption) ?_
              refine r8_iald dX8_nextLine_81 (by decide) (rfl) (by first | assumption | exact (show _ < 65536 by omega) | exact (show _ < 1100 by omega) | exact (show _ < 24 by omega) | exact (show _ < 2100 by omega) | exact (show _ < 6600 by omega) | exact (show _ < 1110 by omega)) ?_
              refine r_aload_n dX8_nextLine_82 (by first | rfl | assumption) ?_
              refine r8_get dX8_nextLine_83 zf_X8_28 rfl ?_
              refine r_iload_n dX8_nextLine_86 (by first | rfl | assumption) ?_
              refine r8_iald dX8_nextLine_87 (by decide) (rfl) (by first | assumption | exact (show _ < 65536 by omega) | exact (show _ < 1100 by omega) | exact (show _ < 24 by omega) | exact (show _ < 2100 by omega) | exact (show _ < 6600 by omega) | exact (show _ < 1110 by omega)) ?_
              rw [rA_o (c2 := 172) (by decide), rA_o (c2 := 170) (by decide), z5, z3]
              have hlt : lo c.2.1 (g.2.2.1 j).2.1.1 < lo c.2.1 (g.2.2.1 j).2.1.2.1 := lo_lt z10 (Nat.le_of_lt z8)
              have hle2 := lo_le (xs := c.2.1) (i := (g.2.2.1 j).2.1.2.1)
              refine r_icmp_ge_f (tgt := 114) dX8_nextLine_88 (by decide) (nI_ge hlt (by omega)) ?_
              refine r_aload_n dX8_nextLine_91 (by first | rfl | assumption) ?_
              refine r_aload_n dX8_nextLine_92 (by first | rfl | assumption) ?_
              refine r8_get dX8_nextLine_93 zf_X8_34 rfl ?_
              refine r_iload_n dX8_nextLine_96 (by first | rfl | assumption) ?_
              refine r8_iald dX8_nextLine_97 (by decide) (rfl) (by first | assumption | exact (show _ < 65536 by omega) | exact (show _ < 1100 by omega) | exact (show _ < 24 by omega) | exact (show _ < 2100 by omega) | exact (show _ < 6600 by omega) | exact (show _ < 1110 by omega)) ?_
              rw [rA_o (c2 := 172) (by decide), z5]
              refine r8_put dX8_nextLine_98 zf_X8_186 (Nat.le_of_ble_eq_true rfl) rfl (⟨rfl, rfl⟩) ?_
              refine r_aload_n dX8_nextLine_101 (by first | rfl | assumption) ?_
              refine r_aload_n dX8_nextLine_102 (by first | rfl | assumption) ?_
              refine r8_get dX8_nextLine_103 zf_X8_37 rfl ?_
              refine r_iload_n dX8_nextLine_106 (by first | rfl | assumption) ?_
              refine r8_iald dX8_nextLine_107 (by decide) (rfl) (by first | assumption | exact (show _ < 65536 by omega) | exact (show _ < 1100 by omega) | exact (show _ < 24 by omega) | exact (show _ < 2100 by omega) | exact (show _ < 6600 by omega) | exact (show _ < 1110 by omega)) ?_
              rw [show (rF (rA r 174 j t) 5 (nI (lo c.2.1 (g.2.2.1 j).2.1.1))).2.1 173 j = nI (g.2.2.1 j).2.1.1 from (congrFun (rA_o (r := r) (c := 174) (c2 := 173) (by decide)) j).trans z6]
              refine r8_put dX8_nextLine_108 zf_X8_136 (Nat.le_of_ble_eq_true rfl) rfl (⟨rfl, rfl⟩) ?_
              refine r_goto (tgt := 183) dX8_nextLine_111 (by decide) ?_
              have q3 : kdG g j = 4 ∧ 0 < (g.2.2.1 j).2.2.1 - 1 := ⟨z1, by rw [← et]; exact Int32.not_le.mp q2⟩
              have e3 : cEnd c g = (gPos (gPt g j ((g.2.2.1 j).1, (g.2.2.1 j).2.1, (g.2.2.1 j).2.2.1 - 1, (g.2.2.1 j).2.2.2)) (g.2.2.1 j).2.1.1, 0) := by
                unfold cEnd
                rw [if_neg (by omega), show g.2.1 - 1 = j by omega, if_neg (by rw [q1]; exact Bool.noConfusion), if_pos q3]
              have htu := h.tu (j := j) (t := t) hj2.1 z1
              rw [← et] at e3
              refine go _ _ _ e3 (htu.at ((eqx.f (by decide)).tr (eqx.f (by decide))) rfl (atL_lo (by unfold cnt at z8; omega) hsl) rfl) hb ((((hx174 t).mono (F2 := [5, 6]) (A2 := [174]) (fun _ z => by cases z) (fun _ z => z)).tr ((eqx.f (by decide)).tr (eqx.f (by decide)))).kp (by decide) (by decide)) l0
          · refine r_icmp_ne_t (tgt := 114) dX8_nextLine_64 (by decide) (by rw [z2]; decide) ?_
            exact l114 (fun z => by rw [z1] at z; exact absurd z.1 (by decide)) _ l0 l1'
end
