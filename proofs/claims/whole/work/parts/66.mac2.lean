section
variable {d : Nat} {S : zS} {r : zR} {c : zD} {g : zG} {xs : List Nat} {ts : List zT} {ls : Nat}
set_option maxRecDepth 10000 in
set_option maxHeartbeats 4000000 in
theorem C_X8_macro (ce : Nat × Nat × Nat) (h : REL c g r) (ht : iL g = none → g.1.2.2.2.1 = g.1.1) (hb : r.1 11 = 0) (hil : iL g = none) (hL : LN r xs) (hl : xs.length ≤ 1024) (hT : TK r xs ts) (hts : tks xs = some ts) (hct : c.2.2.2.1 = ts) (hrd : g.2.2.2.2 = xs) (h7 : r.1 7 = nI ls) (hls : ls = lo c.2.1 (g.1.1 - 1)) (hp1 : 1 ≤ g.1.1 ∧ g.1.1 ≤ cnt c) (hxs : xs = seg c.2.1 ls (eol c.2.1 ls)) (hnm : g.2.2.2.1.length < 512) : Rc (d + 5) mX8_macro [.ref 165] (RS S r) (stX S c r (cDef c g ce)) := by
  have hbx : ∀ k, k < xs.length → xs.getD k 0 < 256 := fun k hk => (hL.2.2 k hk).1
  have hsl := h.1.2.1
  have hlen : ts.length ≤ 1024 := Nat.le_trans (tkF_ok (xs := xs) (by omega) hbx _ _ _ hts).1 hl
  have hOK := tkF_OK _ _ _ hts
  have hMS := h.2.2.2.2.2.2.2.2.2.2
  have hlsl : ls ≤ c.2.1.length := by rw [hls]; exact lo_le
  have hse1 : ∀ t, t < ts.length → (ts.getD t t0).2.1 ≤ (ts.getD t t0).2.2.1 ∧ (ts.getD t t0).2.2.1 ≤ xs.length := fun t htl => by
    have := en_le hOK hl hbx 0 t htl
    exact ⟨Nat.le_of_lt this.1, this.2.1⟩
  have eoff : off7 c g = ls := by
    unfold off7 ln7
    have := lo_in (xs := c.2.1) (i := g.1.1 - 1) (by have := hp1.2; unfold cnt at this; omega)
    rw [this.2, hls]
  have c1 : ∀ x, cDef c g ce = x ↔ (if (c.2.2.2.1.getD 1 t0).1 = 1 ∧ tkn c g 1 = true then (gFl g 3, 2) else if hdg c.2.2.2.1 = false then (gFl g 1, 2) else match fz c g 6 false with
      | none => (gUn c g, 2)
      | some o => (((o + 1, g.1.2), g.2.1, g.2.2.1, g.2.2.2.1 ++ [nMa c g o ce], g.2.2.2.2), 0)) = x := fun x => by
    unfold cDef
    rw [if_neg (show ¬ (iL g).isSome = true by rw [hil]; exact Bool.false_ne_true)]
    exact Iff.rfl
  rw [hct] at c1
  generalize hres : cDef c g ce = res
  have c1 := (c1 res).mp hres
  refine Rc.of ?_
  -- behind the names
  have l34 : ∀ (r1 : zR) (L : Nat → Option Value), (((ts.getD 1 t0).1 = 1 ∧ tkn c g 1 = true) ∧ BD g 3 [] r r1) ∨ (¬ ((ts.getD 1 t0).1 = 1 ∧ tkn c g 1 = true) ∧ r1 = r) → L 0 = some (.ref 165) → Ru (d + 5) mX8_macro 34 L [] (RS S r1) (z_en mX8_macro (stX S c r res)) := by
    intro r1 L hr l0
    have hx1 : eqx [11, 12, 46, 47, 48, 49] [] r r1 := by
      rcases hr with z | z
      · exact z.2.1
      · rw [z.2]; exact eqx.rf
    have hT1 : TK r1 xs ts := hT.mv hx1 (by decide) (by decide)
    refine r_ic (2) dX8_macro_34 rfl ?_
    refine r_istore_n dX8_macro_35 (by decide) (by first | assumption | exact z_c1_i (by first | rfl | assumption) | exact z_c1_r (by first | rfl | assumption) | exact z_c1_n (by first | rfl | assumption) | exact z_c1_c (by first | rfl | assumption) | exact z_c1_0 (by first | rfl | assumption)) ?_
    refine r_aload_n dX8_macro_36 (by first | rfl | assumption) ?_
    refine r_ic (1) dX8_macro_37 rfl ?_
    refine r_callV1 dX8_macro_38 zm_X8_248 RS_o rfl (Nat.le_of_ble_eq_true rfl) (Nat.le_of_ble_eq_true rfl) (C_X8_isName (t := 1) hT1 (by decide)) (fun v S9 hv => ?_)
    obtain ⟨rfl, rfl⟩ := hv
    refine r_istore_n dX8_macro_41 (by decide) (by first | assumption | exact z_c1_i (by first | rfl | assumption) | exact z_c1_r (by first | rfl | assumption) | exact z_c1_n (by first | rfl | assumption) | exact z_c1_c (by first | rfl | assumption) | exact z_c1_0 (by first | rfl | assumption)) ?_
    refine mac_loop (d := d + 4) hT1 (by omega) ?_ ts.length 2 (decide ((ts.getD 1 t0).1 = 1)) _ (by omega) (by decide) (by decide) rk_hdg l0 rfl rfl
    intro L l0 l1 l2
    refine r_iload_n dX8_macro_106 (by first | rfl | assumption) ?_
    have l115 : ∀ (r2 : zR) (k : Nat), BD g k [] r r2 → 0 < k ∧ k < 8 → res = (gFl g k, 2) → Ru (d + 5) mX8_macro 115 L [] (RS S r2) (z_en mX8_macro (stX S c r res)) := by
      intro r2 k hB hk he
      refine r_aload_n dX8_macro_115 (by first | rfl | assumption) ?_
      refine r8_get dX8_macro_116 zf_X8_142 rfl ?_
      rw [hB.2.1]
      refine r_if_eq_f (tgt := 123) dX8_macro_119 (by decide) (nI_ne0 hk.1 (by omega)) ?_
      refine r_return dX8_macro_122 rfl ⟨rfl, r2, rfl, hB.1.kp (by decide) (by decide), Or.inr ?_⟩
      rw [he]
      exact ⟨rfl, hB.dn h hk (by decide)⟩
    rcases hr with z | z
    · rw [if_pos z.1] at c1
      cases hh : hdg ts with
      | true =>
        refine r_if_ne_t (tgt := 115) dX8_macro_107 (by decide) (show ¬ (1 : Int32) = 0 by decide) ?_
        exact l115 r1 3 z.2 (by decide) c1.symm
      | false =>
        refine r_if_ne_f (tgt := 115) dX8_macro_107 (by decide) (rfl) ?_
        refine r_aload_n dX8_macro_110 (by first | rfl | assumption) ?_
        refine r_ic (1) dX8_macro_111 rfl ?_
        refine r_callV1 dX8_macro_112 zm_X8_189 RS_o rfl (Nat.le_of_ble_eq_true rfl) (Nat.le_of_ble_eq_true rfl) (C_X8_fl2 (k := 1) h z.2 (by decide) (by decide)) (fun v S9 hv => ?_)
        obtain ⟨rfl, rfl⟩ := hv
        exact l115 r1 3 z.2 (by decide) c1.symm
    · rw [if_neg z.1] at c1
      have er := z.2
      subst er
      cases hh : hdg ts with
      | false =>
        rw [if_pos hh] at c1
        refine r_if_ne_f (tgt := 115) dX8_macro_107 (by decide) (rfl) ?_
        refine r_aload_n dX8_macro_110 (by first | rfl | assumption) ?_
        refine r_ic (1) dX8_macro_111 rfl ?_
        refine r_callV1 dX8_macro_112 zm_X8_189 RS_o rfl (Nat.le_of_ble_eq_true rfl) (Nat.le_of_ble_eq_true rfl) (C_X8_fl (k := 1) h ht (eqx.rf (A := [])) hb (by decide)) (fun v S9 hv => ?_)
        obtain ⟨rfl, r2, rfl, hB⟩ := hv
        exact l115 r2 1 hB (by decide) c1.symm
      | true =>
        rw [if_neg (by rw [hh]; exact Bool.noConfusion)] at c1
        obtain ⟨hPL, h2t, hpe, hse⟩ := hd_PL hsl hlsl hxs hbx hts hh
        have ht1 := hT.2.2 1 (by omega)
        have hee := eol_le hlsl
        refine r_if_ne_t (tgt := 115) dX8_macro_107 (by decide) (show ¬ (1 : Int32) = 0 by decide) ?_
        refine r_aload_n dX8_macro_115 (by first | rfl | assumption) ?_
        refine r8_get dX8_macro_116 zf_X8_142 rfl ?_
        refine r_if_eq_t (tgt := 123) dX8_macro_119 (by decide) (hb) ?_
        refine r_aload_n dX8_macro_123 (by first | rfl | assumption) ?_
        refine r8_get dX8_macro_124 zf_X8_245 rfl ?_
        rw [hMS.1]
        refine r_istore_n dX8_macro_127 (by decide) (by first | assumption | exact z_c1_i (by first | rfl | assumption) | exact z_c1_r (by first | rfl | assumption) | exact z_c1_n (by first | rfl | assumption) | exact z_c1_c (by first | rfl | assumption) | exact z_c1_0 (by first | rfl | assumption)) ?_
        refine r_aload_n dX8_macro_128 (by first | rfl | assumption) ?_
        refine r8_get dX8_macro_129 zf_X8_69 rfl ?_
        refine r_iload_n dX8_macro_132 (by first | rfl | assumption) ?_
        refine r_aload_n dX8_macro_133 (by first | rfl | assumption) ?_
        refine r8_get dX8_macro_134 zf_X8_193 rfl ?_
        refine r_aload_n dX8_macro_137 (by first | rfl | assumption) ?_
        refine r8_get dX8_macro_138 zf_X8_93 rfl ?_
        refine r_ic (1) dX8_macro_141 rfl ?_
        refine r8_iald dX8_macro_142 (by decide) (rfl) (by show 1 < 1110; decide) ?_
        rw [h7, ht1.1]
        refine r_iadd dX8_macro_143 ?_
        rw [nI_add]
        refine r8_iast dX8_macro_144 (by decide) (rfl) (by first | assumption | exact (show _ < 65536 by omega) | exact (show _ < 1100 by omega) | exact (show _ < 24 by omega) | exact (show _ < 2100 by omega) | exact (show _ < 6600 by omega) | exact (show _ < 1110 by omega)) ?_
        refine r_aload_n dX8_macro_145 (by first | rfl | assumption) ?_
        refine r8_get dX8_macro_146 zf_X8_72 rfl ?_
        refine r_iload_n dX8_macro_149 (by first | rfl | assumption) ?_
        refine r_aload_n dX8_macro_150 (by first | rfl | assumption) ?_
        refine r8_get dX8_macro_151 zf_X8_96 rfl ?_
        refine r_ic (1) dX8_macro_154 rfl ?_
        refine r8_iald dX8_macro_155 (by decide) (rfl) (by show 1 < 1110; decide) ?_
        rw [rA_o (c2 := 239) (by decide), ht1.2.1]
        refine r8_iast dX8_macro_156 (by decide) (rfl) (by first | assumption | exact (show _ < 65536 by omega) | exact (show _ < 1100 by omega) | exact (show _ < 24 by omega) | exact (show _ < 2100 by omega) | exact (show _ < 6600 by omega) | exact (show _ < 1110 by omega)) ?_
        refine r_aload_n dX8_macro_157 (by first | rfl | assumption) ?_
        refine r8_get dX8_macro_158 zf_X8_75 rfl ?_
        refine r_iload_n dX8_macro_161 (by first | rfl | assumption) ?_
        refine r_aload_n dX8_macro_162 (by first | rfl | assumption) ?_
        refine r8_get dX8_macro_163 zf_X8_193 rfl ?_
        refine r_aload_n dX8_macro_166 (by first | rfl | assumption) ?_
        refine r8_get dX8_macro_167 zf_X8_93 rfl ?_
        refine r_ic (1) dX8_macro_170 rfl ?_
        refine r8_iald dX8_macro_171 (by decide) (rfl) (by show 1 < 1110; decide) ?_
        simp only [rA_1]
        rw [h7, rA_o (c2 := 238) (by decide), rA_o (c2 := 238) (by decide), ht1.1]
        refine r_iadd dX8_macro_172 ?_
        rw [nI_add]
        refine r_aload_n dX8_macro_173 (by first | rfl | assumption) ?_
        refine r8_get dX8_macro_174 zf_X8_96 rfl ?_
        refine r_ic (1) dX8_macro_177 rfl ?_
        refine r8_iald dX8_macro_178 (by decide) (rfl) (by show 1 < 1110; decide) ?_
        rw [rA_o (c2 := 239) (by decide), rA_o (c2 := 239) (by decide), ht1.2.1]
        refine r_iadd dX8_macro_179 ?_
        rw [nI_add, show ls + (ts.getD 1 t0).2.1 + ((ts.getD 1 t0).2.2.1 - (ts.getD 1 t0).2.1) = ls + (ts.getD 1 t0).2.2.1 by omega]
        refine r8_iast dX8_macro_180 (by decide) (rfl) (by first | assumption | exact (show _ < 65536 by omega) | exact (show _ < 1100 by omega) | exact (show _ < 24 by omega) | exact (show _ < 2100 by omega) | exact (show _ < 6600 by omega) | exact (show _ < 1110 by omega)) ?_
        refine r_aload_n dX8_macro_181 (by first | rfl | assumption) ?_
        refine r8_get dX8_macro_182 zf_X8_78 rfl ?_
        refine r_iload_n dX8_macro_185 (by first | rfl | assumption) ?_
        refine r_aload_n dX8_macro_186 (by first | rfl | assumption) ?_
        refine r8_get dX8_macro_187 zf_X8_186 rfl ?_
        refine r8_iast dX8_macro_190 (by decide) (rfl) (by first | assumption | exact (show _ < 65536 by omega) | exact (show _ < 1100 by omega) | exact (show _ < 24 by omega) | exact (show _ < 2100 by omega) | exact (show _ < 6600 by omega) | exact (show _ < 1110 by omega)) ?_
        refine r_aload_n dX8_macro_191 (by first | rfl | assumption) ?_
        refine r8_get dX8_macro_192 zf_X8_81 rfl ?_
        refine r_iload_n dX8_macro_195 (by first | rfl | assumption) ?_
        refine r_aload_n dX8_macro_196 (by first | rfl | assumption) ?_
        refine r8_get dX8_macro_197 zf_X8_136 rfl ?_
        refine r8_iast dX8_macro_200 (by decide) (rfl) (by first | assumption | exact (show _ < 65536 by omega) | exact (show _ < 1100 by omega) | exact (show _ < 24 by omega) | exact (show _ < 2100 by omega) | exact (show _ < 6600 by omega) | exact (show _ < 1110 by omega)) ?_
        simp only [rA_1]
        generalize hrr : rA (rA (rA (rA (rA r1 230 g.2.2.2.1.length (nI (ls + (ts.getD 1 t0).2.1))) 231 g.2.2.2.1.length (nI ((ts.getD 1 t0).2.2.1 - (ts.getD 1 t0).2.1))) 232 g.2.2.2.1.length (nI (ls + (ts.getD 1 t0).2.2.1))) 233 g.2.2.2.1.length (r1.1 5)) 234 g.2.2.2.1.length (r1.1 6) = r2
        have f2 : r2.1 = r1.1 := by rw [← hrr]; rfl
        have v2 : r2.2.2 = r1.2.2 := by rw [← hrr]; rfl
        have a2 : ∀ x, x < 230 ∨ 234 < x → r2.2.1 x = r1.2.1 x := fun x hx => by
          rw [← hrr, rA_o (by omega), rA_o (by omega), rA_o (by omega), rA_o (by omega), rA_o (by omega)]
        have j2 : ∀ x j, j ≠ g.2.2.2.1.length → r2.2.1 x j = r1.2.1 x j := fun x j hj => by
          rw [← hrr, rA_j hj, rA_j hj, rA_j hj, rA_j hj, rA_j hj]
        have hMS2 : MS r2 c.2.1 g.2.2.2.1 := by
          refine ⟨by rw [f2]; exact hMS.1, hMS.2.1, fun dd q hq => ?_⟩
          have hdl : dd < g.2.2.2.1.length := (List.getElem?_eq_some_iff.mp hq).1
          have := hMS.2.2 dd q hq
          unfold MR at this ⊢
          rw [j2 _ _ (by omega), j2 _ _ (by omega), j2 _ _ (by omega), j2 _ _ (by omega), j2 _ _ (by omega), j2 _ _ (by omega)]
          exact this
        have hR2 : REL c g r2 := by
          obtain ⟨k1, k2, k3, k4, k5, k6, k7, k8, k9, k10, k11⟩ := h
          have hfr : ∀ j, j < g.2.1 → fre r1 r2 j := fun j hj => ⟨fun k q1 q2 => by rw [a2 k (by omega)], by rw [a2 229 (by omega)], a2 _ (by omega), a2 _ (by omega)⟩
          exact ⟨⟨by rw [f2]; exact k1.1, k1.2.1, by rw [a2 167 (by omega)]; exact k1.2.2⟩, by rw [f2]; exact k2, by rw [f2]; exact k3, by rw [f2]; exact k4, by rw [f2]; exact k5, by rw [f2]; exact k6, by rw [f2]; exact k7, k8, fun j hj => (k9 j hj).mv (hfr j hj) rfl (fun _ _ z => z), fun j hj => by rw [a2 175 (by omega)]; exact k10 j hj, hMS2⟩
        have b2 : r2.1 11 = 0 := by rw [f2]; exact hb
        have kp2 : kept r1 r2 := ⟨by rw [f2], by rw [f2], by rw [f2], by rw [f2], a2 166 (by omega), by rw [v2]⟩
        have elim : c.2.1.length = lo c.2.1 (lim7 c g) := by rw [show lim7 c g = cnt c by unfold lim7; rw [hil]]; exact (lo_out (Nat.le_refl _)).symm
        refine r_aload_n dX8_macro_201 (by first | rfl | assumption) ?_
        refine r_aload_n dX8_macro_202 (by first | rfl | assumption) ?_
        refine r8_get dX8_macro_203 zf_X8_186 rfl ?_
        refine r_aload_n dX8_macro_206 (by first | rfl | assumption) ?_
        refine r8_get dX8_macro_207 zf_X8_136 rfl ?_
        rw [hR2.2.2.1]
        refine r_ic (1) dX8_macro_210 rfl ?_
        refine r_iadd dX8_macro_211 ?_
        rw [nI_1]
        refine r_aload_n dX8_macro_212 (by first | rfl | assumption) ?_
        refine r8_get dX8_macro_213 zf_X8_160 rfl ?_
        rw [hR2.1.1, elim]
        refine r_bp (6) dX8_macro_216 rfl ?_
        refine r_bp (7) dX8_macro_218 rfl ?_
        refine r_ic (0) dX8_macro_220 rfl ?_
        refine r_callV6 dX8_macro_221 zm_X8_251 RS_o rfl (Nat.le_of_ble_eq_true rfl) (Nat.le_of_ble_eq_true rfl) (C_X8_fz (bg := 6) (en := 7) (oe := false) hR2 (Or.inr (Or.inr rfl)) rfl) (fun v S9 hv => ?_)
        cases hf : fz c g 6 false with
        | none =>
          rw [hf] at hv c1
          obtain ⟨rfl, rfl⟩ := hv
          refine r_if_eq_t (tgt := 264) dX8_macro_224 (by decide) (rfl) ?_
          refine r_aload_n dX8_macro_264 (by first | rfl | assumption) ?_
          refine r_ic (1) dX8_macro_265 rfl ?_
          refine r8_put dX8_macro_266 zf_X8_280 (Nat.le_of_ble_eq_true rfl) rfl (⟨rfl, rfl⟩) ?_
          refine r_aload_n dX8_macro_269 (by first | rfl | assumption) ?_
          refine r_aload_n dX8_macro_270 (by first | rfl | assumption) ?_
          refine r8_get dX8_macro_271 zf_X8_160 rfl ?_
          refine r8_put dX8_macro_274 zf_X8_186 (Nat.le_of_ble_eq_true rfl) rfl (⟨rfl, rfl⟩) ?_
          refine r_return dX8_macro_277 rfl ⟨rfl, _, rfl, kp2.tr (((eqx.f (F := [5, 14]) (A := []) (by decide)).tr (eqx.f (by decide))).kp (by decide) (by decide)), Or.inr ?_⟩
          rw [← c1]
          exact ⟨rfl, un_dn hR2 ((eqx.f (by decide)).tr (eqx.f (by decide))) b2 rfl hil (Or.inr rfl)⟩
        | some o =>
          rw [hf] at hv c1
          obtain ⟨rfl, rfl⟩ := hv
          have ho := fz_lt hf
          have hol : o < cnt c := Nat.lt_of_lt_of_le ho.2 hR2.lim
          refine r_if_eq_f (tgt := 264) dX8_macro_224 (by decide) (show ¬ (1 : Int32) = 0 by decide) ?_
          refine r_aload_n dX8_macro_227 (by first | rfl | assumption) ?_
          refine r8_get dX8_macro_228 zf_X8_84 rfl ?_
          refine r_iload_n dX8_macro_231 (by first | rfl | assumption) ?_
          refine r_aload_n dX8_macro_232 (by first | rfl | assumption) ?_
          refine r8_get dX8_macro_233 zf_X8_171 rfl ?_
          rw [rFd_v.1]
          refine r8_iast dX8_macro_236 (by decide) (rfl) (by first | assumption | exact (show _ < 65536 by omega) | exact (show _ < 1100 by omega) | exact (show _ < 24 by omega) | exact (show _ < 2100 by omega) | exact (show _ < 6600 by omega) | exact (show _ < 1110 by omega)) ?_
          refine r_aload_n dX8_macro_237 (by first | rfl | assumption) ?_
          refine r8_get dX8_macro_238 zf_X8_87 rfl ?_
          refine r_iload_n dX8_macro_241 (by first | rfl | assumption) ?_
          refine r_aload_n dX8_macro_242 (by first | rfl | assumption) ?_
          refine r8_get dX8_macro_243 zf_X8_174 rfl ?_
          simp only [rA_1]
          rw [rFd_v.2.1]
          refine r8_iast dX8_macro_246 (by decide) (rfl) (by first | assumption | exact (show _ < 65536 by omega) | exact (show _ < 1100 by omega) | exact (show _ < 24 by omega) | exact (show _ < 2100 by omega) | exact (show _ < 6600 by omega) | exact (show _ < 1110 by omega)) ?_
          refine r_aload_n dX8_macro_247 (by first | rfl | assumption) ?_
          refine r_dup dX8_macro_248 rfl ?_
          refine r8_get dX8_macro_249 zf_X8_245 rfl ?_
          refine r_ic (1) dX8_macro_252 rfl ?_
          simp only [rA_1]
          rw [show (rFd r2 (nI (lo c.2.1 o)) (nI (o + 1)) (nI ((wsO c.2.1).getD o 0)) (nI (lo c.2.1 (o + 1)))).1 33 = nI g.2.2.2.1.length from hMS2.1]
          refine r_iadd dX8_macro_253 ?_
          rw [nI_1]
          refine r8_put dX8_macro_254 zf_X8_245 (Nat.le_of_ble_eq_true rfl) rfl (⟨rfl, rfl⟩) ?_
          refine r_aload_n dX8_macro_257 (by first | rfl | assumption) ?_
          refine r_callV0 dX8_macro_258 zm_X8_275 RS_o rfl (Nat.le_of_ble_eq_true rfl) (Nat.le_of_ble_eq_true rfl) (C_X8_goBehind) (fun v S9 hv => ?_)
          obtain ⟨rfl, rfl⟩ := hv
          refine r_goto (tgt := 277) dX8_macro_261 (by decide) ?_
          have hbh := hR2.behind (o := o) (x := nI ((wsO c.2.1).getD o 0)) hol
          generalize hr4 : rF (rF (rF (rA (rA (rFd r2 (nI (lo c.2.1 o)) (nI (o + 1)) (nI ((wsO c.2.1).getD o 0)) (nI (lo c.2.1 (o + 1)))) 235 g.2.2.2.1.length (nI (lo c.2.1 o))) 236 g.2.2.2.1.length (nI (o + 1))) 33 (nI (g.2.2.2.1.length + 1))) 5 ((rF (rA (rA (rFd r2 (nI (lo c.2.1 o)) (nI (o + 1)) (nI ((wsO c.2.1).getD o 0)) (nI (lo c.2.1 (o + 1)))) 235 g.2.2.2.1.length (nI (lo c.2.1 o))) 236 g.2.2.2.1.length (nI (o + 1))) 33 (nI (g.2.2.2.1.length + 1))).1 49)) 6 ((rF (rA (rA (rFd r2 (nI (lo c.2.1 o)) (nI (o + 1)) (nI ((wsO c.2.1).getD o 0)) (nI (lo c.2.1 (o + 1)))) 235 g.2.2.2.1.length (nI (lo c.2.1 o))) 236 g.2.2.2.1.length (nI (o + 1))) 33 (nI (g.2.2.2.1.length + 1))).1 47) = r4
          have f4 : ∀ x, x ≠ 5 → x ≠ 6 → x ≠ 33 → x < 46 → r4.1 x = r2.1 x := fun x q1 q2 q3 q4 => by
            rw [← hr4]
            show va_up (va_up (va_up (va_up (va_up (va_up (va_up r2.1 46 _) 47 _) 48 _) 49 _) 33 _) 5 _) 6 _ x = _
            rw [va_up_ne _ _ q2, va_up_ne _ _ q1, va_up_ne _ _ q3, va_up_ne _ _ (by omega), va_up_ne _ _ (by omega), va_up_ne _ _ (by omega), va_up_ne _ _ (by omega)]
          have f45 : r4.1 5 = nI (lo c.2.1 (o + 1)) ∧ r4.1 6 = nI (o + 1) ∧ r4.1 33 = nI (g.2.2.2.1.length + 1) := by rw [← hr4]; exact ⟨rfl, rfl, rfl⟩
          have a4 : ∀ x, x ≠ 235 → x ≠ 236 → r4.2.1 x = r2.2.1 x := fun x q1 q2 => by
            rw [← hr4]
            show (rA (rA (rFd r2 _ _ _ _) 235 _ _) 236 _ _).2.1 x = _
            rw [rA_o q2, rA_o q1]
            rfl
          have a45 : ∀ j, j ≠ g.2.2.2.1.length → r4.2.1 235 j = r2.2.1 235 j := fun j hj => by
            rw [← hr4]
            show (rA (rA (rFd r2 _ _ _ _) 235 _ _) 236 _ _).2.1 235 j = _
            rw [rA_j hj, rA_j hj]
            rfl
          have a4n : r4.2.1 235 g.2.2.2.1.length = nI (lo c.2.1 o) := by
            rw [← hr4]
            show (rA (rA (rFd r2 _ _ _ _) 235 _ _) 236 _ _).2.1 235 _ = _
            rw [rA_o (by decide), rA_at]
          have v4 : r4.2.2 = r2.2.2 := by rw [← hr4]; rfl
          have kp4 : kept r1 r4 := kp2.tr ⟨f4 3 (by decide) (by decide) (by decide) (by decide), f4 15 (by decide) (by decide) (by decide) (by decide), f4 16 (by decide) (by decide) (by decide) (by decide), f4 0 (by decide) (by decide) (by decide) (by decide), a4 166 (by decide) (by decide), by rw [v4]⟩
          have c1 : (((o + 1, g.1.2), g.2.1, g.2.2.1, g.2.2.2.1 ++ [nMa c g o ce], g.2.2.2.2), 0) = res := c1
          refine r_return dX8_macro_277 rfl ⟨rfl, r4, rfl, kp4, Or.inl ?_⟩
          rw [← c1]
          refine ⟨rfl, (f4 11 (by decide) (by decide) (by decide) (by decide)).trans b2, Or.inl ?_⟩
          obtain ⟨k1, k2, k3, k4, k5, k6, k7, k8, k9, k10, k11⟩ := hR2
          have hfr : ∀ j, j < g.2.1 → fre r2 r4 j := fun j hj => ⟨fun k q1 q2 => by rw [a4 k (by omega) (by omega)], by rw [a4 229 (by decide) (by decide)], a4 _ (by omega) (by omega), a4 _ (by omega) (by omega)⟩
          refine ⟨⟨(f4 4 (by decide) (by decide) (by decide) (by decide)).trans k1.1, k1.2.1, by rw [a4 167 (by decide) (by decide)]; exact k1.2.2⟩, ⟨lo c.2.1 (o + 1), f45.1, atL_lo hol hsl⟩, f45.2.1, (f4 9 (by decide) (by decide) (by decide) (by decide)).trans k4, (f4 10 (by decide) (by decide) (by decide) (by decide)).trans k5, (f4 14 (by decide) (by decide) (by decide) (by decide)).trans k6, (f4 19 (by decide) (by decide) (by decide) (by decide)).trans k7, k8, fun j hj => (k9 j hj).mv (hfr j hj) rfl (fun dd q hq => ?_), fun j hj => by rw [a4 175 (by decide) (by decide)]; exact k10 j hj, ?_⟩
          · have hdl : dd < g.2.2.2.1.length := (List.getElem?_eq_some_iff.mp hq).1
            show (g.2.2.2.1 ++ [nMa c g o ce])[dd]? = some q
            rw [List.getElem?_append_left hdl]
            exact hq
          · have elen : (g.2.2.2.1 ++ [nMa c g o ce]).length = g.2.2.2.1.length + 1 := by rw [List.length_append]; rfl
            refine ⟨by show r4.1 33 = nI (g.2.2.2.1 ++ [nMa c g o ce]).length; rw [elen]; exact f45.2.2, by show (g.2.2.2.1 ++ [nMa c g o ce]).length ≤ 512; omega, fun dd q hq => ?_⟩
            have hq : (g.2.2.2.1 ++ [nMa c g o ce])[dd]? = some q := hq
            by_cases qd : dd < g.2.2.2.1.length
            · rw [List.getElem?_append_left qd] at hq
              have := k11.2.2 dd q hq
              unfold MR at this ⊢
              rw [a4 230 (by decide) (by decide), a4 231 (by decide) (by decide), a4 232 (by decide) (by decide), a4 233 (by decide) (by decide), a4 234 (by decide) (by decide), a45 dd (by omega)]
              exact this
            · have hdl := (List.getElem?_eq_some_iff.mp hq).1
              have ed : dd = g.2.2.2.1.length := by omega
              subst ed
              rw [List.getElem?_append_right (Nat.le_refl _), Nat.sub_self] at hq
              have hq : some (nMa c g o ce) = some q := hq
              cases hq
              obtain ⟨a, ha1, ha2⟩ := k2
              have ea : a = lo c.2.1 g.1.1 := ha2.2.2.1 (by unfold cnt at hol; omega)
              rw [f2] at ha1
              unfold MR nMa
              rw [eoff, hct]
              refine ⟨?_, ?_, ?_, ⟨ls + (ts.getD 1 t0).2.2.1, ?_, hPL⟩, ?_, ?_, a4n, ho.1, hol⟩
              · rw [a4 230 (by decide) (by decide), ← hrr, rA_o (by decide), rA_o (by decide), rA_o (by decide), rA_o (by decide), rA_at]
              · rw [a4 231 (by decide) (by decide), ← hrr, rA_o (by decide), rA_o (by decide), rA_o (by decide), rA_at]
              · show ls + (ts.getD 1 t0).2.1 + ((ts.getD 1 t0).2.2.1 - (ts.getD 1 t0).2.1) ≤ c.2.1.length
                omega
              · rw [a4 232 (by decide) (by decide), ← hrr, rA_o (by decide), rA_o (by decide), rA_at]
              · rw [a4 233 (by decide) (by decide), ← hrr, rA_o (by decide), rA_at, ha1, ea]
              · rw [a4 234 (by decide) (by decide), ← hrr, rA_at]
                exact h.2.2.1
  have l29 : ((ts.getD 1 t0).1 = 1 ∧ tkn c g 1 = true) → ∀ L : Nat → Option Value, L 0 = some (.ref 165) → Ru (d + 5) mX8_macro 29 L [] (RS S r) (z_en mX8_macro (stX S c r res)) := by
    intro q L l0
    refine r_aload_n dX8_macro_29 (by first | rfl | assumption) ?_
    refine r_ic (3) dX8_macro_30 rfl ?_
    refine r_callV1 dX8_macro_31 zm_X8_189 RS_o rfl (Nat.le_of_ble_eq_true rfl) (Nat.le_of_ble_eq_true rfl) (C_X8_fl (k := 3) h ht (eqx.rf (A := [])) hb (by decide)) (fun v S9 hv => ?_)
    obtain ⟨rfl, r2, rfl, hB⟩ := hv
    exact l34 r2 L (Or.inl ⟨q, hB⟩) l0
  refine r_aload_n dX8_macro_0 (by first | rfl | assumption) ?_
  refine r_ic (1) dX8_macro_1 rfl ?_
  refine r_callV1 dX8_macro_2 zm_X8_248 RS_o rfl (Nat.le_of_ble_eq_true rfl) (Nat.le_of_ble_eq_true rfl) (C_X8_isName (t := 1) hT (by decide)) (fun v S9 hv => ?_)
  obtain ⟨rfl, rfl⟩ := hv
  by_cases q1 : (ts.getD 1 t0).1 = 1
  · rw [decide_eq_true q1]
    refine r_if_eq_f (tgt := 34) dX8_macro_5 (by decide) (show ¬ (1 : Int32) = 0 by decide) ?_
    have htl : 1 < ts.length := by
      rcases Nat.lt_or_ge 1 ts.length with z | z
      · exact z
      · rw [getD_out z] at q1; exact absurd q1 (by decide)
    have hm := hT.2.2 1 htl
    have hg := tsOK_get ts _ 1 hOK htl
    rw [q1] at hg
    have h1' := tk_1 hg.1 hg.2.1 (hbx _ hg.2.1)
    have hv : r.2.2 240 1 = pkV (seg xs (ts.getD 1 t0).2.1 (ts.getD 1 t0).2.2.1) := by
      rcases hm.2.2 with ⟨-, -, z⟩ | ⟨z, -⟩ | ⟨z, -⟩ | ⟨z, -⟩
      · exact z
      · rw [q1] at z; exact absurd z (by decide)
      · rw [q1] at z; exact absurd z (by decide)
      · rw [q1] at z; exact absurd z (by decide)
    have htk : tkn c g 1 = (decide (wd (seg xs (ts.getD 1 t0).2.1 (ts.getD 1 t0).2.2.1) ≠ 0) || (mFd c g 1).isSome) := by
      unfold tkn
      rw [hrd, hct]
    have hnmd : ∀ b ∈ seg xs (ts.getD 1 t0).2.1 (ts.getD 1 t0).2.2.1, b < 256 ∧ fNm (nI b) = true := by
      have := seg_nm (r := r) (xs := xs) (k := (ts.getD 1 t0).2.1) (e := xs.length) (Or.inr hbx) (Nat.le_refl _) (by omega)
      have e : nmE xs (ts.getD 1 t0).2.1 xs.length = (ts.getD 1 t0).2.2.1 := h1'.1.symm
      rw [e] at this
      exact this
    have hw8 := wd_lt (seg xs (ts.getD 1 t0).2.1 (ts.getD 1 t0).2.2.1)
    refine r_aload_n dX8_macro_8 (by first | rfl | assumption) ?_
    refine r8_get dX8_macro_9 zf_X8_99 rfl ?_
    refine r_ic (1) dX8_macro_12 rfl ?_
    refine r8_lald dX8_macro_13 (by decide) ?_
    rw [hv]
    refine r_callS1 dX8_macro_14 zm_X8_156 (Nat.le_of_ble_eq_true rfl) (Nat.le_of_ble_eq_true rfl) (C_X8_word hnmd) (fun v S9 hv => ?_)
    obtain ⟨rfl, rfl⟩ := hv
    refine r_ic (-1) dX8_macro_17 rfl ?_
    by_cases q2 : wd (seg xs (ts.getD 1 t0).2.1 (ts.getD 1 t0).2.2.1) = 0
    · refine r_icmp_ne_f (tgt := 29) dX8_macro_18 (by decide) (by rw [q2]; rfl) ?_
      refine r_aload_n dX8_macro_21 (by first | rfl | assumption) ?_
      refine r_ic (1) dX8_macro_22 rfl ?_
      refine r_callV1 dX8_macro_23 zm_X8_283 RS_o rfl (Nat.le_of_ble_eq_true rfl) (Nat.le_of_ble_eq_true rfl) (C_X8_macroNamed (t := 1) h.1 hL hl hT hMS (by decide) (hse1 1)) (fun v S9 hv => ?_)
      obtain ⟨rfl, hv⟩ := hv
      rw [if_pos q1] at hv
      have emf : mFd c g 1 = g.2.2.2.1.find? (mNm c.2.1 xs (ts.getD 1 t0).2.1 ((ts.getD 1 t0).2.2.1 - (ts.getD 1 t0).2.1)) := by
        unfold mFd
        rw [hrd, hct]
      rw [← emf] at hv
      cases hmf : mFd c g 1 with
      | none =>
        rw [hmf] at hv
        have hv : v = some (.int (-1)) := hv
        subst hv
        refine r_if_lt_t (tgt := 34) dX8_macro_26 (by decide) (show (-1 : Int32) < 0 by decide) ?_
        refine l34 r _ (Or.inr ⟨fun z => ?_, rfl⟩) rfl
        rw [htk, q2, hmf] at z
        cases z.2
      | some q =>
        rw [hmf] at hv
        obtain ⟨dd, hdd, rfl⟩ := hv
        have hdl : dd < g.2.2.2.1.length := (List.getElem?_eq_some_iff.mp hdd).1
        refine r_if_lt_f (tgt := 34) dX8_macro_26 (by decide) (fun z => absurd z (Int32.not_lt.mpr (show nI 0 ≤ nI dd from nI_le (Nat.zero_le _) (by omega)))) ?_
        exact l29 ⟨q1, by rw [htk, hmf]; simp⟩ _ rfl
    · have hne : ¬ wI (wd (seg xs (ts.getD 1 t0).2.1 (ts.getD 1 t0).2.2.1)) = -1 := by
        intro z
        unfold wI at z
        rw [if_neg q2] at z
        have : ∀ w, w < 8 → ¬ nI w = -1 := by decide
        exact this _ hw8 z
      refine r_icmp_ne_t (tgt := 29) dX8_macro_18 (by decide) (hne) ?_
      exact l29 ⟨q1, by rw [htk, decide_eq_true q2]; rfl⟩ _ rfl
  · rw [decide_eq_false q1]
    refine r_if_eq_t (tgt := 34) dX8_macro_5 (by decide) (rfl) ?_
    exact l34 r _ (Or.inr ⟨fun z => q1 z.1, rfl⟩) rfl
set_option maxRecDepth 10000 in
theorem C_X8_str6 (ce : Nat × Nat × Nat) (h : REL c g r) (ht : iL g = none → g.1.2.2.2.1 = g.1.1) (hb : r.1 11 = 0) (hil : iL g = none) (hL : LN r xs) (hl : xs.length ≤ 1024) (hT : TK r xs ts) (hts : tks xs = some ts) (hct : c.2.2.2.1 = ts) (hrd : g.2.2.2.2 = xs) (h7 : r.1 7 = nI ls) (hls : ls = lo c.2.1 (g.1.1 - 1)) (hp1 : 1 ≤ g.1.1 ∧ g.1.1 ≤ cnt c) (hxs : xs = seg c.2.1 ls (eol c.2.1 ls)) (hnm : g.2.2.2.1.length < 512) : Rc (d + 6) mX8_structure [.ref 165, .int (nI 6)] (RS S r) (stX S c r (cDef c g ce)) := by
  refine Rc.of (str_pre h rfl rfl ?_)
  intro L l0 l1 l2 l3 lj
  refine r_iload_n dX8_structure_23 (by first | rfl | assumption) ?_
  refine r_bp (6) dX8_structure_24 rfl ?_
  refine r_icmp_ne_f (tgt := 34) dX8_structure_26 (by decide) (rfl) ?_
  refine r_aload_n dX8_structure_29 (by first | rfl | assumption) ?_
  refine r_callV0 dX8_structure_30 zm_X8_272 RS_o rfl (Nat.le_of_ble_eq_true rfl) (Nat.le_of_ble_eq_true rfl) (C_X8_macro ce h ht hb hil hL hl hT hts hct hrd h7 hls hp1 hxs hnm) (fun v S9 hv => ?_)
  have hv1 := hv.1
  subst hv1
  refine r_return dX8_structure_33 rfl hv
end
