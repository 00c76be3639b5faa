/-! THE REFERENCE: numbers -/
theorem nuL_f {xs : List Nat} {bs : Int32} : ∀ (n k : Nat) (v : Int64), (nuL xs bs n k v false).2.2 = false
  | 0, k, v => rfl
  | n + 1, k, v => by
    rw [nuL_s]
    split
    · rfl
    · exact nuL_f n _ _
set_option maxRecDepth 100000 in
theorem fHx_b : ∀ b, b < 256 → ¬ fHx (nI b) < 0 := by decide +kernel
section
variable {d : Nat} {S : zS} {r : zR} {xs : List Nat} {i n : Nat}
def nuP (S : zS) (r : zR) (xs : List Nat) (i n : Nat) (v : Option Value) (S1 : zS) : Prop := (numOk xs i = true ∧ v = some (.int (nI (num xs i).1)) ∧ S1 = RS S (rT r n 2 (nI i) (nI ((num xs i).1 - i)) (num xs i).2.1)) ∨ (numOk xs i = false ∧ v = some (.int (-1)) ∧ S1 = RS S r)
set_option maxRecDepth 10000 in
set_option maxHeartbeats 2000000 in
theorem C_X8_numberToken (h : LN r xs) (hl : xs.length ≤ 1024) (hi : i < xs.length) (hn : r.1 41 = nI n) (hn2 : n < 1110) : Rc (d + 3) mX8_numberToken [.ref 165, .int (nI i)] (RS S r) (nuP S r xs i n) := by
  have hb3 := bsN_3 xs i
  have hfs : i ≤ fsN xs i ∧ fsN xs i ≤ xs.length := by
    unfold fsN
    split
    · omega
    · next q =>
      refine ⟨by omega, ?_⟩
      rcases Nat.lt_or_ge (i + 1) xs.length with z | z
      · exact z
      · exfalso
        apply q
        unfold bsN
        rw [ch_out z]
        split <;> rfl
  have hnu := nuL_le (xs := xs) (bs := bsN xs i) (xs.length - fsN xs i) (fsN xs i) 0 true
  have hnu : fsN xs i ≤ (num xs i).1 ∧ (num xs i).1 ≤ fsN xs i + (xs.length - fsN xs i) := hnu
  have fin : ∀ (L : Nat → Option Value), (num xs i).2.2 = true → L 0 = some (.ref 165) → L 1 = some (.int (nI i)) → L 2 = some (.long (num xs i).2.1) → L 4 = some (.int (nI (num xs i).1)) → L 6 = some (.int (nI (fsN xs i))) → Ru (d + 3) mX8_numberToken 244 L [] (RS S r) (z_en mX8_numberToken (nuP S r xs i n)) := by
    intro L hf l0 l1 l2 l4 l6
    have l273 : numOk xs i = false → Ru (d + 3) mX8_numberToken 273 L [] (RS S r) (z_en mX8_numberToken (nuP S r xs i n)) := by
      intro q
      refine r_ic (-1) dX8_numberToken_273 rfl ?_
      refine r_ireturn dX8_numberToken_274 _ rfl rfl (Or.inr ⟨q, rfl, rfl⟩)
    have l275 : numOk xs i = true → Ru (d + 3) mX8_numberToken 275 L [] (RS S r) (z_en mX8_numberToken (nuP S r xs i n)) := by
      intro q
      refine r_aload_n dX8_numberToken_275 (by first | rfl | assumption) ?_
      refine r_ic (2) dX8_numberToken_276 rfl ?_
      refine r_iload_n dX8_numberToken_277 (by first | rfl | assumption) ?_
      refine r_iload dX8_numberToken_278 (by first | rfl | assumption) ?_
      refine r_lload_n dX8_numberToken_280 (by first | rfl | assumption) ?_
      refine r_callV4 dX8_numberToken_281 zm_X8_229 RS_o rfl (Nat.le_of_ble_eq_true rfl) (Nat.le_of_ble_eq_true rfl) (C_X8_token hn hn2 (show i ≤ (num xs i).1 by omega)) (fun u S9 hv => ?_)
      obtain ⟨rfl, rfl⟩ := hv
      refine r_iload dX8_numberToken_284 (by first | rfl | assumption) ?_
      refine r_ireturn dX8_numberToken_286 _ rfl rfl (Or.inl ⟨q, rfl, rfl⟩)
    refine r_iload dX8_numberToken_244 (by first | rfl | assumption) ?_
    refine r_iload dX8_numberToken_246 (by first | rfl | assumption) ?_
    by_cases q1 : (num xs i).1 = fsN xs i
    · refine r_icmp_eq_t (tgt := 273) dX8_numberToken_248 (by decide) (by rw [q1]) ?_
      refine l273 ?_
      unfold numOk
      rw [decide_eq_false (by omega), hf]
      rfl
    refine r_icmp_eq_f (tgt := 273) dX8_numberToken_248 (by decide) (fun z => q1 ((nI_eq (by omega) (by omega)).mp z)) ?_
    have hlt : fsN xs i < (num xs i).1 := by omega
    refine r_iload dX8_numberToken_251 (by first | rfl | assumption) ?_
    refine r_aload_n dX8_numberToken_253 (by first | rfl | assumption) ?_
    refine r8_get dX8_numberToken_254 zf_X8_199 rfl ?_
    rw [h.1]
    by_cases q2 : xs.length ≤ (num xs i).1
    · refine r_icmp_ge_t (tgt := 275) dX8_numberToken_257 (by decide) (nI_le q2 (by omega)) ?_
      refine l275 ?_
      unfold numOk
      rw [decide_eq_true hlt, hf, ch_out q2]
      rfl
    refine r_icmp_ge_f (tgt := 275) dX8_numberToken_257 (by decide) (nI_ge (a := (num xs i).1) (b := xs.length) (by omega) (by omega)) ?_
    have hb := h.at hl (k := (num xs i).1) (by omega)
    refine r_aload_n dX8_numberToken_260 (by first | rfl | assumption) ?_
    refine r8_get dX8_numberToken_261 zf_X8_21 rfl ?_
    refine r_iload dX8_numberToken_264 (by first | rfl | assumption) ?_
    refine r8_bald dX8_numberToken_266 (by decide) (rfl) (by first | assumption | exact (show _ < 65536 by omega) | exact (show _ < 1100 by omega) | exact (show _ < 24 by omega) | exact (show _ < 2100 by omega) | exact (show _ < 6600 by omega) | exact (show _ < 1110 by omega)) ?_
    rw [hb.2]
    refine r_callS1 dX8_numberToken_267 zm_X8_117 (Nat.le_of_ble_eq_true rfl) (Nat.le_of_ble_eq_true rfl) (C_X8_isNamed) (fun u S9 hv => ?_)
    obtain ⟨rfl, rfl⟩ := hv
    rw [(sbx _ hb.1).1, ← ch_in (by omega)]
    cases hnm : fNm (ch xs (num xs i).1) with
    | true =>
      refine r_if_eq_f (tgt := 275) dX8_numberToken_270 (by decide) (show ¬ (1 : Int32) = 0 by decide) ?_
      refine l273 ?_
      unfold numOk
      rw [decide_eq_true hlt, hf, hnm]
      rfl
    | false =>
      refine r_if_eq_t (tgt := 275) dX8_numberToken_270 (by decide) (rfl) ?_
      refine l275 ?_
      unfold numOk
      rw [decide_eq_true hlt, hf, hnm]
      rfl
  have loop : ∀ (m k : Nat) (v : Int64) (L : Nat → Option Value), xs.length - k = m → fsN xs i ≤ k → k ≤ xs.length → nuL xs (bsN xs i) m k v true = num xs i → L 0 = some (.ref 165) → L 1 = some (.int (nI i)) → L 2 = some (.long v) → L 3 = none → L 4 = some (.int (nI k)) → L 5 = some (.int (bsN xs i)) → L 6 = some (.int (nI (fsN xs i))) → z_c1 (L 7) → Ru (d + 3) mX8_numberToken 106 L [] (RS S r) (z_en mX8_numberToken (nuP S r xs i n)) := by
    intro m
    induction m with
    | zero =>
      intro k v L hm hk1 hk2 hnu2 l0 l1 l2 l3 l4 l5 l6 l7
      have hnu2 : (k, v, true) = num xs i := hnu2
      refine r_iload dX8_numberToken_106 (by first | rfl | assumption) ?_
      refine r_aload_n dX8_numberToken_108 (by first | rfl | assumption) ?_
      refine r8_get dX8_numberToken_109 zf_X8_199 rfl ?_
      rw [h.1]
      refine r_icmp_ge_t (tgt := 244) dX8_numberToken_112 (by decide) (nI_le (a := xs.length) (b := k) (by omega) (by omega)) ?_
      exact fin L (by rw [← hnu2]) l0 l1 (by rw [← hnu2]; exact l2) (by rw [← hnu2]; exact l4) l6
    | succ m ih =>
      intro k v L hm hk1 hk2 hnu2 l0 l1 l2 l3 l4 l5 l6 l7
      have hb := h.at hl (k := k) (by omega)
      have ec := ch_in (xs := xs) (k := k) (by omega)
      rw [nuL_s] at hnu2
      refine r_iload dX8_numberToken_106 (by first | rfl | assumption) ?_
      refine r_aload_n dX8_numberToken_108 (by first | rfl | assumption) ?_
      refine r8_get dX8_numberToken_109 zf_X8_199 rfl ?_
      rw [h.1]
      refine r_icmp_ge_f (tgt := 244) dX8_numberToken_112 (by decide) (nI_ge (a := k) (b := xs.length) (by omega) (by omega)) ?_
      refine r_aload_n dX8_numberToken_115 (by first | rfl | assumption) ?_
      refine r8_get dX8_numberToken_116 zf_X8_21 rfl ?_
      refine r_iload dX8_numberToken_119 (by first | rfl | assumption) ?_
      refine r8_bald dX8_numberToken_121 (by decide) (rfl) (by first | assumption | exact (show _ < 65536 by omega) | exact (show _ < 1100 by omega) | exact (show _ < 24 by omega) | exact (show _ < 2100 by omega) | exact (show _ < 6600 by omega) | exact (show _ < 1110 by omega)) ?_
      rw [hb.2]
      refine r_callS1 dX8_numberToken_122 zm_X8_218 (Nat.le_of_ble_eq_true rfl) (Nat.le_of_ble_eq_true rfl) (C_X8_digitOf) (fun u S9 hv => ?_)
      obtain ⟨rfl, rfl⟩ := hv
      rw [(sbx _ hb.1).2.2.2.2.2, ← ec]
      refine r_iload dX8_numberToken_125 (by first | rfl | assumption) ?_
      by_cases q1 : fHx (ch xs k) < bsN xs i
      · refine r_icmp_ge_f (tgt := 244) dX8_numberToken_127 (by decide) (Int32.not_le.mpr q1) ?_
        have hd0 : dgt (bsN xs i) (ch xs k) = fHx (ch xs k) := if_pos q1
        rw [hd0, if_neg (by rw [ec]; exact fHx_b _ hb.1)] at hnu2
        refine r_aload_n dX8_numberToken_130 (by first | rfl | assumption) ?_
        refine r8_get dX8_numberToken_131 zf_X8_21 rfl ?_
        refine r_iload dX8_numberToken_134 (by first | rfl | assumption) ?_
        refine r8_bald dX8_numberToken_136 (by decide) (rfl) (by first | assumption | exact (show _ < 65536 by omega) | exact (show _ < 1100 by omega) | exact (show _ < 24 by omega) | exact (show _ < 2100 by omega) | exact (show _ < 6600 by omega) | exact (show _ < 1110 by omega)) ?_
        rw [hb.2]
        refine r_callS1 dX8_numberToken_137 zm_X8_218 (Nat.le_of_ble_eq_true rfl) (Nat.le_of_ble_eq_true rfl) (C_X8_digitOf) (fun u S9 hv => ?_)
        obtain ⟨rfl, rfl⟩ := hv
        rw [(sbx _ hb.1).2.2.2.2.2, ← ec]
        refine r_istore dX8_numberToken_140 (by decide) (by first | exact z_c1_i (by first | rfl | assumption) | exact z_c1_r (by first | rfl | assumption) | exact z_c1_n (by first | rfl | assumption) | exact z_c1_c (by first | rfl | assumption) | exact z_c1_0 (by first | rfl | assumption)) ?_
        refine r_iload dX8_numberToken_142 (by first | rfl | assumption) ?_
        refine r_bp (10) dX8_numberToken_144 rfl ?_
        have l219 : ∀ (x : Int32) (L : Nat → Option Value), x = bI (!hrm (bsN xs i) v (fHx (ch xs k))) → L 0 = some (.ref 165) → L 1 = some (.int (nI i)) → L 2 = some (.long v) → L 3 = none → L 4 = some (.int (nI k)) → L 5 = some (.int (bsN xs i)) → L 6 = some (.int (nI (fsN xs i))) → L 7 = some (.int (fHx (ch xs k))) → Ru (d + 3) mX8_numberToken 219 L [.int x] (RS S r) (z_en mX8_numberToken (nuP S r xs i n)) := by
          intro x L hx l0 l1 l2 l3 l4 l5 l6 l7
          refine r_istore dX8_numberToken_219 (by decide) (by first | exact z_c1_i (by first | rfl | assumption) | exact z_c1_r (by first | rfl | assumption) | exact z_c1_n (by first | rfl | assumption) | exact z_c1_c (by first | rfl | assumption) | exact z_c1_0 (by first | rfl | assumption)) ?_
          refine r_iload dX8_numberToken_221 (by first | rfl | assumption) ?_
          cases hr : hrm (bsN xs i) v (fHx (ch xs k)) with
          | false =>
            rw [hr] at hx hnu2
            subst hx
            refine r_if_eq_f (tgt := 228) dX8_numberToken_223 (by decide) (show ¬ (1 : Int32) = 0 by decide) ?_
            refine r_ic (-1) dX8_numberToken_226 rfl ?_
            refine r_ireturn dX8_numberToken_227 _ rfl rfl (Or.inr ⟨?_, rfl, rfl⟩)
            have hnu2 : nuL xs (bsN xs i) m (k + 1) (v * (bsN xs i).toInt64 + (fHx (ch xs k)).toInt64) false = num xs i := hnu2
            unfold numOk
            rw [← hnu2, nuL_f]
            rfl
          | true =>
            rw [hr] at hx hnu2
            subst hx
            refine r_if_eq_t (tgt := 228) dX8_numberToken_223 (by decide) (rfl) ?_
            refine r_lload_n dX8_numberToken_228 (by first | rfl | assumption) ?_
            refine r_iload dX8_numberToken_229 (by first | rfl | assumption) ?_
            refine r_i2l dX8_numberToken_231 ?_
            refine r_lmul dX8_numberToken_232 ?_
            refine r_iload dX8_numberToken_233 (by first | rfl | assumption) ?_
            refine r_i2l dX8_numberToken_235 ?_
            refine r_ladd dX8_numberToken_236 ?_
            refine r_lstore_n dX8_numberToken_237 (by decide) (by first | exact z_c1_i (by first | rfl | assumption) | exact z_c1_r (by first | rfl | assumption) | exact z_c1_n (by first | rfl | assumption) | exact z_c1_c (by first | rfl | assumption) | exact z_c1_0 (by first | rfl | assumption)) ?_
            refine r_inc (nI (k + 1)) dX8_numberToken_238 (by first | rfl | assumption) (by decide) (by first | exact z_c1_i (by first | rfl | assumption) | exact z_c1_r (by first | rfl | assumption) | exact z_c1_n (by first | rfl | assumption) | exact z_c1_c (by first | rfl | assumption) | exact z_c1_0 (by first | rfl | assumption)) (nI_1 _) ?_
            refine r_goto (tgt := 106) dX8_numberToken_241 (by decide) ?_
            exact ih (k + 1) _ _ (by omega) (by omega) (by omega) hnu2 l0 l1 rfl rfl rfl l5 l6 (z_c1_i (L := z_s1 (z_s2 (z_s1 L 8 _) 2 _) 4 _) (i := 7) l7)
        rcases hb3 with e2 | e2 | e2
        · rw [e2]
          refine r_icmp_ne_t (tgt := 181) dX8_numberToken_146 (by decide) (by decide) ?_
          refine r_iload dX8_numberToken_181 (by first | rfl | assumption) ?_
          refine r_bp (16) dX8_numberToken_183 rfl ?_
          rw [e2]
          refine r_icmp_ne_t (tgt := 205) dX8_numberToken_185 (by decide) (by decide) ?_
          refine r_lload_n dX8_numberToken_205 (by first | rfl | assumption) ?_
          refine r_bp (63) dX8_numberToken_206 rfl ?_
          refine r_lushr dX8_numberToken_208 ?_
          refine r_lc (0) dX8_numberToken_209 rfl ?_
          refine r_lcmp dX8_numberToken_210 ?_
          have ho : hrm (bsN xs i) v (fHx (ch xs k)) = decide (lg_cmp (lsh v 63) 0 = 0) := by
            unfold hrm
            rw [e2]
            rfl
          by_cases q5 : lg_cmp (lsh v 63) 0 = 0
          · refine r_if_eq_t (tgt := 218) dX8_numberToken_211 (by decide) (q5) ?_
            refine r_ic (0) dX8_numberToken_218 rfl ?_
            exact l219 _ _ (by rw [ho, decide_eq_true q5]; rfl) l0 l1 l2 l3 l4 l5 l6 rfl
          · refine r_if_eq_f (tgt := 218) dX8_numberToken_211 (by decide) (q5) ?_
            refine r_ic (1) dX8_numberToken_214 rfl ?_
            refine r_goto (tgt := 219) dX8_numberToken_215 (by decide) ?_
            exact l219 _ _ (by rw [ho, decide_eq_false q5]; rfl) l0 l1 l2 l3 l4 l5 l6 rfl
        · rw [e2]
          refine r_icmp_ne_f (tgt := 181) dX8_numberToken_146 (by decide) (rfl) ?_
          refine r_lload_n dX8_numberToken_149 (by first | rfl | assumption) ?_
          refine r_ldc2 dX8_numberToken_150 zk_X8_221 ?_
          refine r_cmpU dX8_numberToken_153 zo_X8_223 (by simp) ?_
          have ho := ov10 (v := v) (dg := fHx (ch xs k))
          have hbs : hrm (bsN xs i) v (fHx (ch xs k)) = hrm 10 v (fHx (ch xs k)) := by rw [e2]
          have l173 : hrm 10 v (fHx (ch xs k)) = false → ∀ (L : Nat → Option Value), L 0 = some (.ref 165) → L 1 = some (.int (nI i)) → L 2 = some (.long v) → L 3 = none → L 4 = some (.int (nI k)) → L 5 = some (.int (bsN xs i)) → L 6 = some (.int (nI (fsN xs i))) → L 7 = some (.int (fHx (ch xs k))) → Ru (d + 3) mX8_numberToken 173 L [] (RS S r) (z_en mX8_numberToken (nuP S r xs i n)) := by
            intro q L l0 l1 l2 l3 l4 l5 l6 l7
            refine r_ic (1) dX8_numberToken_173 rfl ?_
            refine r_goto (tgt := 219) dX8_numberToken_174 (by decide) ?_
            exact l219 _ _ (by rw [hbs, q]; rfl) l0 l1 l2 l3 l4 l5 l6 l7
          have l177 : hrm 10 v (fHx (ch xs k)) = true → ∀ (L : Nat → Option Value), L 0 = some (.ref 165) → L 1 = some (.int (nI i)) → L 2 = some (.long v) → L 3 = none → L 4 = some (.int (nI k)) → L 5 = some (.int (bsN xs i)) → L 6 = some (.int (nI (fsN xs i))) → L 7 = some (.int (fHx (ch xs k))) → Ru (d + 3) mX8_numberToken 177 L [] (RS S r) (z_en mX8_numberToken (nuP S r xs i n)) := by
            intro q L l0 l1 l2 l3 l4 l5 l6 l7
            refine r_ic (0) dX8_numberToken_177 rfl ?_
            refine r_goto (tgt := 219) dX8_numberToken_178 (by decide) ?_
            exact l219 _ _ (by rw [hbs, q]; rfl) l0 l1 l2 l3 l4 l5 l6 l7
          by_cases q5 : 0 < lg_cmp (v + (-9223372036854775808)) (1844674407370955161 + (-9223372036854775808))
          · refine r_if_gt_t (tgt := 173) dX8_numberToken_156 (by decide) (q5) ?_
            exact l173 (ho.mp (Or.inl q5)) _ l0 l1 l2 l3 l4 l5 l6 rfl
          refine r_if_gt_f (tgt := 173) dX8_numberToken_156 (by decide) (q5) ?_
          refine r_lload_n dX8_numberToken_159 (by first | rfl | assumption) ?_
          refine r_ldc2 dX8_numberToken_160 zk_X8_221 ?_
          refine r_lcmp dX8_numberToken_163 ?_
          by_cases q6 : lg_cmp v 1844674407370955161 = 0
          · refine r_if_ne_f (tgt := 177) dX8_numberToken_164 (by decide) (q6) ?_
            refine r_iload dX8_numberToken_167 (by first | rfl | assumption) ?_
            refine r_ic (5) dX8_numberToken_169 rfl ?_
            by_cases q7 : fHx (ch xs k) ≤ 5
            · refine r_icmp_le_t (tgt := 177) dX8_numberToken_170 (by decide) (q7) ?_
              refine l177 (Bool.not_eq_false _ |>.mp (fun z => ?_)) _ l0 l1 l2 l3 l4 l5 l6 rfl
              rcases ho.mpr z with w | w
              · exact q5 w
              · exact w.2 q7
            · refine r_icmp_le_f (tgt := 177) dX8_numberToken_170 (by decide) (q7) ?_
              exact l173 (ho.mp (Or.inr ⟨q6, q7⟩)) _ l0 l1 l2 l3 l4 l5 l6 rfl
          · refine r_if_ne_t (tgt := 177) dX8_numberToken_164 (by decide) (q6) ?_
            refine l177 (Bool.not_eq_false _ |>.mp (fun z => ?_)) _ l0 l1 l2 l3 l4 l5 l6 rfl
            rcases ho.mpr z with w | w
            · exact q5 w
            · exact q6 w.1
        · rw [e2]
          refine r_icmp_ne_t (tgt := 181) dX8_numberToken_146 (by decide) (by decide) ?_
          refine r_iload dX8_numberToken_181 (by first | rfl | assumption) ?_
          refine r_bp (16) dX8_numberToken_183 rfl ?_
          rw [e2]
          refine r_icmp_ne_f (tgt := 205) dX8_numberToken_185 (by decide) (rfl) ?_
          refine r_lload_n dX8_numberToken_188 (by first | rfl | assumption) ?_
          refine r_bp (60) dX8_numberToken_189 rfl ?_
          refine r_lushr dX8_numberToken_191 ?_
          refine r_lc (0) dX8_numberToken_192 rfl ?_
          refine r_lcmp dX8_numberToken_193 ?_
          have ho : hrm (bsN xs i) v (fHx (ch xs k)) = decide (lg_cmp (lsh v 60) 0 = 0) := by
            unfold hrm
            rw [e2]
            rfl
          by_cases q5 : lg_cmp (lsh v 60) 0 = 0
          · refine r_if_eq_t (tgt := 201) dX8_numberToken_194 (by decide) (q5) ?_
            refine r_ic (0) dX8_numberToken_201 rfl ?_
            refine r_goto (tgt := 219) dX8_numberToken_202 (by decide) ?_
            exact l219 _ _ (by rw [ho, decide_eq_true q5]; rfl) l0 l1 l2 l3 l4 l5 l6 rfl
          · refine r_if_eq_f (tgt := 201) dX8_numberToken_194 (by decide) (q5) ?_
            refine r_ic (1) dX8_numberToken_197 rfl ?_
            refine r_goto (tgt := 219) dX8_numberToken_198 (by decide) ?_
            exact l219 _ _ (by rw [ho, decide_eq_false q5]; rfl) l0 l1 l2 l3 l4 l5 l6 rfl
      · refine r_icmp_ge_t (tgt := 244) dX8_numberToken_127 (by decide) (Int32.not_lt.mp q1) ?_
        have hd0 : dgt (bsN xs i) (ch xs k) = -1 := if_neg q1
        rw [hd0, if_pos (by decide)] at hnu2
        exact fin L (by rw [← hnu2]) l0 l1 (by rw [← hnu2]; exact l2) (by rw [← hnu2]; exact l4) l6
  have l84 : ∀ (L : Nat → Option Value), L 0 = some (.ref 165) → L 1 = some (.int (nI i)) → L 2 = some (.long 0) → L 3 = none → L 4 = some (.int (nI i)) → L 7 = none → Ru (d + 3) mX8_numberToken 84 L [.int (bsN xs i)] (RS S r) (z_en mX8_numberToken (nuP S r xs i n)) := by
    intro L l0 l1 l2 l3 l4 l7
    have l100 : ∀ (L : Nat → Option Value), L 0 = some (.ref 165) → L 1 = some (.int (nI i)) → L 2 = some (.long 0) → L 3 = none → L 4 = some (.int (nI i)) → L 5 = some (.int (bsN xs i)) → L 7 = none → Ru (d + 3) mX8_numberToken 100 L [.int (nI (fsN xs i))] (RS S r) (z_en mX8_numberToken (nuP S r xs i n)) := by
      intro L l0 l1 l2 l3 l4 l5 l7
      refine r_istore dX8_numberToken_100 (by decide) (by first | exact z_c1_i (by first | rfl | assumption) | exact z_c1_r (by first | rfl | assumption) | exact z_c1_n (by first | rfl | assumption) | exact z_c1_c (by first | rfl | assumption) | exact z_c1_0 (by first | rfl | assumption)) ?_
      refine r_iload dX8_numberToken_102 (by first | rfl | assumption) ?_
      refine r_istore dX8_numberToken_104 (by decide) (by first | exact z_c1_i (by first | rfl | assumption) | exact z_c1_r (by first | rfl | assumption) | exact z_c1_n (by first | rfl | assumption) | exact z_c1_c (by first | rfl | assumption) | exact z_c1_0 (by first | rfl | assumption)) ?_
      exact loop _ (fsN xs i) 0 _ rfl (Nat.le_refl _) hfs.2 rfl l0 l1 l2 l3 rfl l5 rfl (z_c1_0 (L := z_s1 (z_s1 L 6 _) 4 _) (i := 7) l7)
    refine r_istore dX8_numberToken_84 (by decide) (by first | exact z_c1_i (by first | rfl | assumption) | exact z_c1_r (by first | rfl | assumption) | exact z_c1_n (by first | rfl | assumption) | exact z_c1_c (by first | rfl | assumption) | exact z_c1_0 (by first | rfl | assumption)) ?_
    refine r_iload dX8_numberToken_86 (by first | rfl | assumption) ?_
    refine r_bp (10) dX8_numberToken_88 rfl ?_
    by_cases q : bsN xs i = 10
    · refine r_icmp_ne_f (tgt := 97) dX8_numberToken_90 (by decide) (q) ?_
      refine r_iload_n dX8_numberToken_93 (by first | rfl | assumption) ?_
      refine r_goto (tgt := 100) dX8_numberToken_94 (by decide) ?_
      have := l100 (z_s1 L 5 (.int (bsN xs i))) l0 l1 l2 l3 l4 rfl l7
      rw [show fsN xs i = i from if_pos q] at this
      exact this
    · refine r_icmp_ne_t (tgt := 97) dX8_numberToken_90 (by decide) (q) ?_
      refine r_iload_n dX8_numberToken_97 (by first | rfl | assumption) ?_
      refine r_ic (2) dX8_numberToken_98 rfl ?_
      refine r_iadd dX8_numberToken_99 ?_
      rw [show (nI i + 2 : Int32) = nI (i + 2) from nI_add i 2]
      have := l100 (z_s1 L 5 (.int (bsN xs i))) l0 l1 l2 l3 l4 rfl l7
      rw [show fsN xs i = i + 2 from if_neg q] at this
      exact this
  refine Rc.of ?_
  have hb := h.at hl hi
  have ec := ch_in (xs := xs) hi
  refine r_lc (0) dX8_numberToken_0 rfl ?_
  refine r_lstore_n dX8_numberToken_1 (by decide) (by first | exact z_c1_i (by first | rfl | assumption) | exact z_c1_r (by first | rfl | assumption) | exact z_c1_n (by first | rfl | assumption) | exact z_c1_c (by first | rfl | assumption) | exact z_c1_0 (by first | rfl | assumption)) ?_
  refine r_iload_n dX8_numberToken_2 (by first | rfl | assumption) ?_
  refine r_istore dX8_numberToken_3 (by decide) (by first | exact z_c1_i (by first | rfl | assumption) | exact z_c1_r (by first | rfl | assumption) | exact z_c1_n (by first | rfl | assumption) | exact z_c1_c (by first | rfl | assumption) | exact z_c1_0 (by first | rfl | assumption)) ?_
  refine r_aload_n dX8_numberToken_5 (by first | rfl | assumption) ?_
  refine r8_get dX8_numberToken_6 zf_X8_21 rfl ?_
  refine r_iload_n dX8_numberToken_9 (by first | rfl | assumption) ?_
  refine r8_bald dX8_numberToken_10 (by decide) (rfl) (by first | assumption | exact (show _ < 65536 by omega) | exact (show _ < 1100 by omega) | exact (show _ < 24 by omega) | exact (show _ < 2100 by omega) | exact (show _ < 6600 by omega) | exact (show _ < 1110 by omega)) ?_
  rw [hb.2]
  refine r_bp (48) dX8_numberToken_11 rfl ?_
  have l44 : ¬ (ch xs i = 48 ∧ ch xs (i + 1) = 120) → ∀ (L : Nat → Option Value), L 0 = some (.ref 165) → L 1 = some (.int (nI i)) → L 2 = some (.long 0) → L 3 = none → L 4 = some (.int (nI i)) → L 7 = none → Ru (d + 3) mX8_numberToken 44 L [] (RS S r) (z_en mX8_numberToken (nuP S r xs i n)) := by
    intro q L l0 l1 l2 l3 l4 l7
    have l82 : ¬ (ch xs i = 48 ∧ ch xs (i + 1) = 98) → Ru (d + 3) mX8_numberToken 82 L [] (RS S r) (z_en mX8_numberToken (nuP S r xs i n)) := by
      intro q2
      have e : bsN xs i = 10 := by
        unfold bsN
        split
        · next z => rw [if_neg (fun w => q ⟨z, w⟩), if_neg (fun w => q2 ⟨z, w⟩)]
        · rfl
      refine r_bp (10) dX8_numberToken_82 rfl ?_
      have := l84 L l0 l1 l2 l3 l4 l7
      rw [e] at this
      exact this
    refine r_aload_n dX8_numberToken_44 (by first | rfl | assumption) ?_
    refine r8_get dX8_numberToken_45 zf_X8_21 rfl ?_
    refine r_iload_n dX8_numberToken_48 (by first | rfl | assumption) ?_
    refine r8_bald dX8_numberToken_49 (by decide) (rfl) (by first | assumption | exact (show _ < 65536 by omega) | exact (show _ < 1100 by omega) | exact (show _ < 24 by omega) | exact (show _ < 2100 by omega) | exact (show _ < 6600 by omega) | exact (show _ < 1110 by omega)) ?_
    rw [hb.2]
    refine r_bp (48) dX8_numberToken_50 rfl ?_
    by_cases q1 : xs.getD i 0 = 48
    · refine r_icmp_ne_f (tgt := 82) dX8_numberToken_52 (by decide) ((sb_is hb.1 (by decide)).mpr q1) ?_
      refine r_iload_n dX8_numberToken_55 (by first | rfl | assumption) ?_
      refine r_ic (1) dX8_numberToken_56 rfl ?_
      refine r_iadd dX8_numberToken_57 ?_
      rw [nI_1]
      refine r_aload_n dX8_numberToken_58 (by first | rfl | assumption) ?_
      refine r8_get dX8_numberToken_59 zf_X8_199 rfl ?_
      rw [h.1]
      by_cases q2 : xs.length ≤ i + 1
      · refine r_icmp_ge_t (tgt := 82) dX8_numberToken_62 (by decide) (nI_le q2 (by omega)) ?_
        exact l82 (fun z => by rw [ch_out q2] at z; exact absurd z.2 (by decide))
      refine r_icmp_ge_f (tgt := 82) dX8_numberToken_62 (by decide) (nI_ge (a := i + 1) (b := xs.length) (by omega) (by omega)) ?_
      have hb1 := h.at hl (k := i + 1) (by omega)
      have ec1 := ch_in (xs := xs) (k := i + 1) (by omega)
      refine r_aload_n dX8_numberToken_65 (by first | rfl | assumption) ?_
      refine r8_get dX8_numberToken_66 zf_X8_21 rfl ?_
      refine r_iload_n dX8_numberToken_69 (by first | rfl | assumption) ?_
      refine r_ic (1) dX8_numberToken_70 rfl ?_
      refine r_iadd dX8_numberToken_71 ?_
      rw [nI_1]
      refine r8_bald dX8_numberToken_72 (by decide) (rfl) (by first | assumption | exact (show _ < 65536 by omega) | exact (show _ < 1100 by omega) | exact (show _ < 24 by omega) | exact (show _ < 2100 by omega) | exact (show _ < 6600 by omega) | exact (show _ < 1110 by omega)) ?_
      rw [hb1.2]
      refine r_bp (98) dX8_numberToken_73 rfl ?_
      by_cases q3 : xs.getD (i + 1) 0 = 98
      · refine r_icmp_ne_f (tgt := 82) dX8_numberToken_75 (by decide) ((sb_is hb1.1 (by decide)).mpr q3) ?_
        refine r_ic (2) dX8_numberToken_78 rfl ?_
        refine r_goto (tgt := 84) dX8_numberToken_79 (by decide) ?_
        have e : bsN xs i = 2 := by
          unfold bsN
          rw [ec, ec1, q1, q3]
          rfl
        have := l84 L l0 l1 l2 l3 l4 l7
        rw [e] at this
        exact this
      · refine r_icmp_ne_t (tgt := 82) dX8_numberToken_75 (by decide) (fun z => q3 ((sb_is hb1.1 (c := 98) (by decide)).mp z)) ?_
        exact l82 (fun z => q3 ((nI_eq (b := 98) (by omega) (by decide)).mp (ec1.symm.trans z.2)))
    · refine r_icmp_ne_t (tgt := 82) dX8_numberToken_52 (by decide) (fun z => q1 ((sb_is hb.1 (c := 48) (by decide)).mp z)) ?_
      exact l82 (fun z => q1 ((nI_eq (b := 48) (by omega) (by decide)).mp (ec.symm.trans z.1)))
  by_cases q1 : xs.getD i 0 = 48
  · refine r_icmp_ne_f (tgt := 44) dX8_numberToken_13 (by decide) ((sb_is hb.1 (by decide)).mpr q1) ?_
    refine r_iload_n dX8_numberToken_16 (by first | rfl | assumption) ?_
    refine r_ic (1) dX8_numberToken_17 rfl ?_
    refine r_iadd dX8_numberToken_18 ?_
    rw [nI_1]
    refine r_aload_n dX8_numberToken_19 (by first | rfl | assumption) ?_
    refine r8_get dX8_numberToken_20 zf_X8_199 rfl ?_
    rw [h.1]
    by_cases q2 : xs.length ≤ i + 1
    · refine r_icmp_ge_t (tgt := 44) dX8_numberToken_23 (by decide) (nI_le q2 (by omega)) ?_
      exact l44 (fun z => by rw [ch_out q2] at z; exact absurd z.2 (by decide)) _ rfl rfl rfl rfl rfl rfl
    refine r_icmp_ge_f (tgt := 44) dX8_numberToken_23 (by decide) (nI_ge (a := i + 1) (b := xs.length) (by omega) (by omega)) ?_
    have hb1 := h.at hl (k := i + 1) (by omega)
    have ec1 := ch_in (xs := xs) (k := i + 1) (by omega)
    refine r_aload_n dX8_numberToken_26 (by first | rfl | assumption) ?_
    refine r8_get dX8_numberToken_27 zf_X8_21 rfl ?_
    refine r_iload_n dX8_numberToken_30 (by first | rfl | assumption) ?_
    refine r_ic (1) dX8_numberToken_31 rfl ?_
    refine r_iadd dX8_numberToken_32 ?_
    rw [nI_1]
    refine r8_bald dX8_numberToken_33 (by decide) (rfl) (by first | assumption | exact (show _ < 65536 by omega) | exact (show _ < 1100 by omega) | exact (show _ < 24 by omega) | exact (show _ < 2100 by omega) | exact (show _ < 6600 by omega) | exact (show _ < 1110 by omega)) ?_
    rw [hb1.2]
    refine r_bp (120) dX8_numberToken_34 rfl ?_
    by_cases q3 : xs.getD (i + 1) 0 = 120
    · refine r_icmp_ne_f (tgt := 44) dX8_numberToken_36 (by decide) ((sb_is hb1.1 (by decide)).mpr q3) ?_
      refine r_bp (16) dX8_numberToken_39 rfl ?_
      refine r_goto (tgt := 84) dX8_numberToken_41 (by decide) ?_
      have e : bsN xs i = 16 := by
        unfold bsN
        rw [ec, ec1, q1, q3]
        rfl
      rw [e] at l84
      exact l84 _ rfl rfl rfl rfl rfl rfl
    · refine r_icmp_ne_t (tgt := 44) dX8_numberToken_36 (by decide) (fun z => q3 ((sb_is hb1.1 (c := 120) (by decide)).mp z)) ?_
      exact l44 (fun z => q3 ((nI_eq (b := 120) (by omega) (by decide)).mp (ec1.symm.trans z.2))) _ rfl rfl rfl rfl rfl rfl
  · refine r_icmp_ne_t (tgt := 44) dX8_numberToken_13 (by decide) (fun z => q1 ((sb_is hb.1 (c := 48) (by decide)).mp z)) ?_
    exact l44 (fun z => q1 ((nI_eq (b := 48) (by omega) (by decide)).mp (ec.symm.trans z.1))) _ rfl rfl rfl rfl rfl rfl
end
