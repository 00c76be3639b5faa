section
variable {d : Nat} {S : zS} {r : zR} {c : zD} {g : zG}
theorem prs_len {xs : List Nat} {stop : Nat} : ∀ (m k : Nat), (prs xs stop m k).length ≤ m
  | 0, k => Nat.le_refl _
  | m + 1, k => by
    show (if stop ≤ k ∨ xs.getD k 0 = 59 then [] else if fNm (nI (xs.getD k 0)) = false then prs xs stop m (k + 1) else (k, nmE xs k stop - k) :: prs xs stop m (nmE xs k stop)).length ≤ _
    split
    · exact Nat.zero_le _
    · split
      · exact Nat.le_succ_of_le (prs_len m (k + 1))
      · exact Nat.succ_le_succ (prs_len m _)
theorem PL.len {xs : List Nat} {p : Nat} {ps : List (Nat × Nat)} (h : PL xs p ps) : ps.length ≤ xs.length := by
  have h1 := prs_len (xs := xs) (stop := eol xs p) (eol xs p - p) p
  rw [h.2.2.2.1] at h1
  have := (eol_le (xs := xs) h.2.2.1).2
  omega
theorem opn_k (h : REL c g r) : (opn g = true ↔ (kdA (kdG g) g.2.1 = 1 ∨ kdA (kdG g) g.2.1 = 2)) := by
  unfold opn
  cases hn : g.2.1 with
  | zero => exact ⟨fun z => (by cases z), fun z => (by rcases z with z | z <;> cases z)⟩
  | succ n =>
    have hf := (h.fk).1 n (by omega)
    show (decide (0 < n + 1) && !hasL (kdG g n)) = true ↔ (kdG g n = 1 ∨ kdG g n = 2)
    rw [decide_eq_true (Nat.succ_pos n), Bool.true_and]
    rcases hf with ⟨h1, -⟩ | ⟨h1, -⟩ | ⟨h1, -⟩
    · exact ⟨fun _ => h1, fun _ => by rcases h1 with z | z <;> rw [z] <;> rfl⟩
    · rw [h1]; exact ⟨fun z => (by cases z), fun z => (by rcases z with z | z <;> exact absurd z (by decide))⟩
    · rw [h1]; exact ⟨fun z => (by cases z), fun z => (by rcases z with z | z <;> exact absurd z (by decide))⟩
set_option maxRecDepth 10000 in
set_option maxHeartbeats 1000000 in
theorem C_X8_nst2 {x : Int32} (h : REL c g r) (ht : iL g = none → g.1.2.2.2.1 = g.1.1) (hb : r.1 11 = 0) : Rc (d + 5) mX8_nesting [.ref 165, .int 2, .int x] (RS S r) (nsP S g [] r (kdA (kdG g) g.2.1 ≠ 1 ∨ ((fz c g 1 false).isNone && (iL g).isSome) = true) (fun _ => True)) := by
  have h20 := h.2.2.2.2.2.2.2.1
  have e19 := h.2.2.2.2.2.2.1
  generalize hN : (kdA (kdG g) g.2.1 ≠ 1 ∨ ((fz c g 1 false).isNone && (iL g).isSome) = true) = N
  refine Rc.of ?_
  have l238 : ∀ (r1 : zR) (L : Nat → Option Value), (N ∧ BD g 6 [] r r1) ∨ (¬ N ∧ eqx [46, 47, 48, 49] [] r r1) → L 1 = some (.int 2) → Ru (d + 5) mX8_nesting 238 L [] (RS S r1) (z_en mX8_nesting (nsP S g [] r N (fun _ => True))) := by
    intro r1 L hr l1
    refine r_iload_n dX8_nesting_238 (by first | rfl | assumption) ?_
    refine r_bp (8) dX8_nesting_239 rfl ?_
    refine r_icmp_ne_t (tgt := 278) dX8_nesting_241 (by decide) (by decide) ?_
    refine r_return dX8_nesting_278 rfl ⟨rfl, r1, rfl, hr.imp id (fun z => ⟨z.1, z.2, trivial⟩)⟩
  have l108 : ∀ (r1 : zR) (L : Nat → Option Value), (kdA (kdG g) g.2.1 ≠ 1 ∧ BD g 6 [] r r1) ∨ (kdA (kdG g) g.2.1 = 1 ∧ r1 = r) → L 0 = some (.ref 165) → L 1 = some (.int 2) → z_c1 (L 3) → Ru (d + 5) mX8_nesting 108 L [] (RS S r1) (z_en mX8_nesting (nsP S g [] r N (fun _ => True))) := by
    intro r1 L hr l0 l1 l3
    have hx1 : eqx [11, 12, 46, 47, 48, 49] [] r r1 := by
      rcases hr with z | z
      · exact z.2.1
      · rw [z.2]; exact eqx.rf
    have hR1 : REL c g r1 := h.mv hx1 (by decide) (fun x hx => by cases hx)
    refine r_aload_n dX8_nesting_108 (by first | rfl | assumption) ?_
    refine r_callV0 dX8_nesting_109 zm_X8_183 RS_o rfl (Nat.le_of_ble_eq_true rfl) (Nat.le_of_ble_eq_true rfl) (C_X8_reader hR1.fk) (fun v S9 hv => ?_)
    obtain ⟨rfl, rfl⟩ := hv
    refine r_istore dX8_nesting_112 (by decide) (by first | assumption | exact z_c1_i (by first | rfl | assumption) | exact z_c1_r (by first | rfl | assumption) | exact z_c1_n (by first | rfl | assumption) | exact z_c1_c (by first | rfl | assumption) | exact z_c1_0 (by first | rfl | assumption)) ?_
    refine r_iload_n dX8_nesting_114 (by first | rfl | assumption) ?_
    refine r_bp (6) dX8_nesting_115 rfl ?_
    refine r_icmp_ne_t (tgt := 131) dX8_nesting_117 (by decide) (by decide) ?_
    refine r_iload_n dX8_nesting_131 (by first | rfl | assumption) ?_
    refine r_ic (1) dX8_nesting_132 rfl ?_
    refine r_icmp_eq_f (tgt := 141) dX8_nesting_133 (by decide) (by decide) ?_
    refine r_iload_n dX8_nesting_136 (by first | rfl | assumption) ?_
    refine r_ic (4) dX8_nesting_137 rfl ?_
    refine r_icmp_ne_t (tgt := 188) dX8_nesting_138 (by decide) (by decide) ?_
    refine r_iload_n dX8_nesting_188 (by first | rfl | assumption) ?_
    refine r_ic (2) dX8_nesting_189 rfl ?_
    refine r_icmp_ne_f (tgt := 238) dX8_nesting_190 (by decide) (rfl) ?_
    refine r_aload_n dX8_nesting_193 (by first | rfl | assumption) ?_
    refine r8_get dX8_nesting_194 zf_X8_142 rfl ?_
    rcases hr with z | z
    · rw [z.2.2.1]
      refine r_if_ne_t (tgt := 238) dX8_nesting_197 (by decide) (nI_ne0 (by decide) (by decide)) ?_
      exact l238 r1 _ (Or.inl ⟨hN ▸ Or.inl z.1, z.2⟩) l1
    · have e1 := z.2
      subst e1
      refine r_if_ne_f (tgt := 238) dX8_nesting_197 (by decide) (hb) ?_
      refine r_iload dX8_nesting_200 (by first | rfl | assumption) ?_
      cases hj : iL g with
      | none =>
        rw [show inL (kdG g) g.2.1 = none from hj]
        refine r_if_lt_t (tgt := 238) dX8_nesting_202 (by decide) (show (-1 : Int32) < 0 by decide) ?_
        refine l238 r1 _ (Or.inr ⟨fun q => Or.elim (hN.symm ▸ q) (fun w => w z.1) (fun q => ?_), eqx.rf⟩) l1
        rw [hj, Bool.and_eq_true] at q
        cases q.2
      | some j =>
        have hst := h.stop hj
        rw [show inL (kdG g) g.2.1 = some j from hj]
        refine r_if_lt_f (tgt := 238) dX8_nesting_202 (by decide) (fun z => absurd z (Int32.not_lt.mpr (show nI 0 ≤ nI j from nI_le (Nat.zero_le _) (by omega)))) ?_
        refine r_aload_n dX8_nesting_205 (by first | rfl | assumption) ?_
        refine r_aload_n dX8_nesting_206 (by first | rfl | assumption) ?_
        refine r8_get dX8_nesting_207 zf_X8_186 rfl ?_
        refine r_aload_n dX8_nesting_210 (by first | rfl | assumption) ?_
        refine r8_get dX8_nesting_211 zf_X8_136 rfl ?_
        rw [h.2.2.1]
        refine r_ic (1) dX8_nesting_214 rfl ?_
        refine r_iadd dX8_nesting_215 ?_
        rw [nI_1]
        refine r_aload_n dX8_nesting_216 (by first | rfl | assumption) ?_
        refine r8_get dX8_nesting_217 zf_X8_28 rfl ?_
        refine r_iload dX8_nesting_220 (by first | rfl | assumption) ?_
        rw [show oI (some j) = nI j from rfl]
        refine r8_iald dX8_nesting_222 (by decide) (rfl) (by first | assumption | exact (show _ < 65536 by omega) | exact (show _ < 1100 by omega) | exact (show _ < 24 by omega) | exact (show _ < 2100 by omega) | exact (show _ < 6600 by omega) | exact (show _ < 1110 by omega)) ?_
        rw [hst.1]
        refine r_ic (1) dX8_nesting_223 rfl ?_
        refine r_ic (3) dX8_nesting_224 rfl ?_
        refine r_ic (0) dX8_nesting_225 rfl ?_
        refine r_callV6 dX8_nesting_226 zm_X8_251 RS_o rfl (Nat.le_of_ble_eq_true rfl) (Nat.le_of_ble_eq_true rfl) (C_X8_fz (bg := 1) (en := 3) (oe := false) h (Or.inl rfl) rfl) (fun v S9 hv => ?_)
        cases hf : fz c g 1 false with
        | some o =>
          rw [hf] at hv
          obtain ⟨rfl, rfl⟩ := hv
          refine r_if_ne_t (tgt := 238) dX8_nesting_229 (by decide) (show ¬ (1 : Int32) = 0 by decide) ?_
          refine l238 _ _ (Or.inr ⟨fun q => Or.elim (hN.symm ▸ q) (fun w => w z.1) (fun q => ?_), rFd_x⟩) l1
          rw [hf] at q
          cases q
        | none =>
          rw [hf] at hv
          obtain ⟨rfl, rfl⟩ := hv
          refine r_if_ne_f (tgt := 238) dX8_nesting_229 (by decide) (rfl) ?_
          refine r_aload_n dX8_nesting_232 (by first | rfl | assumption) ?_
          refine r_bp (6) dX8_nesting_233 rfl ?_
          refine r_callV1 dX8_nesting_235 zm_X8_189 RS_o rfl (Nat.le_of_ble_eq_true rfl) (Nat.le_of_ble_eq_true rfl) (C_X8_fl (k := 6) h ht (eqx.rf (A := [])) hb (by decide)) (fun v S9 hv => ?_)
          obtain ⟨rfl, r2, rfl, hB⟩ := hv
          exact l238 r2 _ (Or.inl ⟨hN ▸ Or.inr (by rw [hf, hj]; rfl), hB⟩) l1
  have l102 : kdA (kdG g) g.2.1 ≠ 1 → ∀ (L : Nat → Option Value), L 0 = some (.ref 165) → L 1 = some (.int 2) → z_c1 (L 3) → Ru (d + 5) mX8_nesting 102 L [] (RS S r) (z_en mX8_nesting (nsP S g [] r N (fun _ => True))) := by
    intro q L l0 l1 l3
    refine r_aload_n dX8_nesting_102 (by first | rfl | assumption) ?_
    refine r_bp (6) dX8_nesting_103 rfl ?_
    refine r_callV1 dX8_nesting_105 zm_X8_189 RS_o rfl (Nat.le_of_ble_eq_true rfl) (Nat.le_of_ble_eq_true rfl) (C_X8_fl (k := 6) h ht (eqx.rf (A := [])) hb (by decide)) (fun v S9 hv => ?_)
    obtain ⟨rfl, r2, rfl, hB⟩ := hv
    exact l108 r2 L (Or.inl ⟨q, hB⟩) l0 l1 l3
  refine r_iload_n dX8_nesting_0 (by first | rfl | assumption) ?_
  refine r_ic (1) dX8_nesting_1 rfl ?_
  refine r_icmp_eq_f (tgt := 16) dX8_nesting_2 (by decide) (by decide) ?_
  refine r_iload_n dX8_nesting_5 (by first | rfl | assumption) ?_
  refine r_ic (4) dX8_nesting_6 rfl ?_
  refine r_icmp_eq_f (tgt := 16) dX8_nesting_7 (by decide) (by decide) ?_
  refine r_iload_n dX8_nesting_10 (by first | rfl | assumption) ?_
  refine r_bp (8) dX8_nesting_11 rfl ?_
  refine r_icmp_ne_t (tgt := 31) dX8_nesting_13 (by decide) (by decide) ?_
  refine nst_op (A := []) h eqx.rf (by decide) rfl (z_c1_i rfl) ?_
  have hop := opn_k h
  refine r_iload_n dX8_nesting_59 (by first | rfl | assumption) ?_
  refine r_ic (2) dX8_nesting_60 rfl ?_
  refine r_icmp_ne_f (tgt := 82) dX8_nesting_61 (by decide) (rfl) ?_
  refine r_iload_n dX8_nesting_64 (by first | rfl | assumption) ?_
  cases ho : opn g with
  | false =>
    refine r_if_eq_t (tgt := 102) dX8_nesting_65 (by decide) (rfl) ?_
    refine l102 (fun z => ?_) _ rfl rfl (z_c1_i rfl)
    have := hop.mpr (Or.inl z)
    rw [ho] at this
    cases this
  | true =>
    have hk := hop.mp ho
    obtain ⟨n, hn⟩ : ∃ n, g.2.1 = n + 1 := by
      cases hn : g.2.1 with
      | zero => unfold opn at ho; rw [hn] at ho; cases ho
      | succ n => exact ⟨n, rfl⟩
    rw [hn] at hk l102 l108
    have hk : kdG g n = 1 ∨ kdG g n = 2 := hk
    have h178 : r.2.1 178 n = bI (decide (kdG g n = 2)) := by
      rcases h.2.2.2.2.2.2.2.2.1 n (by omega) with ⟨-, -, h3⟩ | ⟨h1, -⟩ | ⟨h1, -⟩
      · exact h3
      · rw [h1] at hk; rcases hk with z | z <;> exact absurd z (by decide)
      · rw [h1] at hk; rcases hk with z | z <;> exact absurd z (by decide)
    refine r_if_eq_f (tgt := 102) dX8_nesting_65 (by decide) (show ¬ (1 : Int32) = 0 by decide) ?_
    refine r_aload_n dX8_nesting_68 (by first | rfl | assumption) ?_
    refine r8_get dX8_nesting_69 zf_X8_52 rfl ?_
    refine r_aload_n dX8_nesting_72 (by first | rfl | assumption) ?_
    refine r8_get dX8_nesting_73 zf_X8_139 rfl ?_
    rw [e19, hn]
    refine r_ic (1) dX8_nesting_76 rfl ?_
    refine r_isub dX8_nesting_77 ?_
    rw [nI_p1]
    refine r8_zald dX8_nesting_78 (by decide) (rfl) (by first | assumption | exact (show _ < 65536 by omega) | exact (show _ < 1100 by omega) | exact (show _ < 24 by omega) | exact (show _ < 2100 by omega) | exact (show _ < 6600 by omega) | exact (show _ < 1110 by omega)) ?_
    rw [h178]
    rcases hk with hk | hk
    · rw [hk]
      refine r_if_ne_f (tgt := 102) dX8_nesting_79 (by decide) (rfl) ?_
      refine r_iload_n dX8_nesting_82 (by first | rfl | assumption) ?_
      refine r_ic (3) dX8_nesting_83 rfl ?_
      refine r_icmp_ne_t (tgt := 91) dX8_nesting_84 (by decide) (by decide) ?_
      refine r_iload_n dX8_nesting_91 (by first | rfl | assumption) ?_
      refine r_ic (5) dX8_nesting_92 rfl ?_
      refine r_icmp_eq_f (tgt := 102) dX8_nesting_93 (by decide) (by decide) ?_
      refine r_iload_n dX8_nesting_96 (by first | rfl | assumption) ?_
      refine r_bp (7) dX8_nesting_97 rfl ?_
      refine r_icmp_ne_t (tgt := 108) dX8_nesting_99 (by decide) (by decide) ?_
      exact l108 r _ (Or.inr ⟨hk, rfl⟩) rfl rfl (z_c1_i rfl)
    · rw [hk]
      refine r_if_ne_t (tgt := 102) dX8_nesting_79 (by decide) (show ¬ (1 : Int32) = 0 by decide) ?_
      exact l102 (show kdG g n ≠ 1 by rw [hk]; decide) _ rfl rfl (z_c1_i rfl)
set_option maxRecDepth 10000 in
set_option maxHeartbeats 1000000 in
/-- an end of a condition, an end that belongs to nothing, a macro's heading -/
theorem C_X8_nst3 {w : Nat} {x : Int32} (h : REL c g r) (ht : iL g = none → g.1.2.2.2.1 = g.1.1) (hb : r.1 11 = 0) (hw : w = 3 ∨ w = 5 ∨ w = 7 ∨ w = 6) : Rc (d + 5) mX8_nesting [.ref 165, .int (nI w), .int x] (RS S r) (nsP S g [] r ((w = 3 ∧ kdA (kdG g) g.2.1 ≠ 1 ∧ kdA (kdG g) g.2.1 ≠ 2) ∨ w = 5 ∨ w = 7 ∨ (w = 6 ∧ (iL g).isSome = true)) (fun _ => True)) := by
  have h20 := h.2.2.2.2.2.2.2.1
  generalize hN : ((w = 3 ∧ kdA (kdG g) g.2.1 ≠ 1 ∧ kdA (kdG g) g.2.1 ≠ 2) ∨ w = 5 ∨ w = 7 ∨ (w = 6 ∧ (iL g).isSome = true)) = N
  refine Rc.of ?_
  have d1 : w ≠ 1 ∧ w ≠ 4 ∧ w ≠ 8 ∧ w ≠ 2 ∧ w < 8 := by rcases hw with rfl | rfl | rfl | rfl <;> decide
  have dn : ∀ k, k < 9 → w ≠ k → ¬ nI w = nI k := fun k hk hne z => hne ((nI_eq (by omega) (by omega)).mp z)
  have l131 : ∀ (r1 : zR) (L : Nat → Option Value), (N ∧ BD g 6 [] r r1) ∨ (¬ N ∧ eqx [46, 47, 48, 49] [] r r1) → L 1 = some (.int (nI w)) → Ru (d + 5) mX8_nesting 131 L [] (RS S r1) (z_en mX8_nesting (nsP S g [] r N (fun _ => True))) := by
    intro r1 L hr l1
    refine r_iload_n dX8_nesting_131 (by first | rfl | assumption) ?_
    refine r_ic (1) dX8_nesting_132 rfl ?_
    refine r_icmp_eq_f (tgt := 141) dX8_nesting_133 (by decide) (dn 1 (by decide) d1.1) ?_
    refine r_iload_n dX8_nesting_136 (by first | rfl | assumption) ?_
    refine r_ic (4) dX8_nesting_137 rfl ?_
    refine r_icmp_ne_t (tgt := 188) dX8_nesting_138 (by decide) (dn 4 (by decide) d1.2.1) ?_
    refine r_iload_n dX8_nesting_188 (by first | rfl | assumption) ?_
    refine r_ic (2) dX8_nesting_189 rfl ?_
    refine r_icmp_ne_t (tgt := 238) dX8_nesting_190 (by decide) (dn 2 (by decide) d1.2.2.2.1) ?_
    refine r_iload_n dX8_nesting_238 (by first | rfl | assumption) ?_
    refine r_bp (8) dX8_nesting_239 rfl ?_
    refine r_icmp_ne_t (tgt := 278) dX8_nesting_241 (by decide) (dn 8 (by decide) d1.2.2.1) ?_
    refine r_return dX8_nesting_278 rfl ⟨rfl, r1, rfl, hr.imp id (fun z => ⟨z.1, z.2, trivial⟩)⟩
  have l108 : ∀ (r1 : zR) (L : Nat → Option Value), (((w = 3 ∧ kdA (kdG g) g.2.1 ≠ 1 ∧ kdA (kdG g) g.2.1 ≠ 2) ∨ w = 5 ∨ w = 7) ∧ BD g 6 [] r r1) ∨ (¬ ((w = 3 ∧ kdA (kdG g) g.2.1 ≠ 1 ∧ kdA (kdG g) g.2.1 ≠ 2) ∨ w = 5 ∨ w = 7) ∧ r1 = r) → L 0 = some (.ref 165) → L 1 = some (.int (nI w)) → z_c1 (L 3) → Ru (d + 5) mX8_nesting 108 L [] (RS S r1) (z_en mX8_nesting (nsP S g [] r N (fun _ => True))) := by
    intro r1 L hr l0 l1 l3
    have hx1 : eqx [11, 12, 46, 47, 48, 49] [] r r1 := by
      rcases hr with z | z
      · exact z.2.1
      · rw [z.2]; exact eqx.rf
    have hR1 : REL c g r1 := h.mv hx1 (by decide) (fun x hx => by cases hx)
    refine r_aload_n dX8_nesting_108 (by first | rfl | assumption) ?_
    refine r_callV0 dX8_nesting_109 zm_X8_183 RS_o rfl (Nat.le_of_ble_eq_true rfl) (Nat.le_of_ble_eq_true rfl) (C_X8_reader hR1.fk) (fun v S9 hv => ?_)
    obtain ⟨rfl, rfl⟩ := hv
    refine r_istore dX8_nesting_112 (by decide) (by first | assumption | exact z_c1_i (by first | rfl | assumption) | exact z_c1_r (by first | rfl | assumption) | exact z_c1_n (by first | rfl | assumption) | exact z_c1_c (by first | rfl | assumption) | exact z_c1_0 (by first | rfl | assumption)) ?_
    refine r_iload_n dX8_nesting_114 (by first | rfl | assumption) ?_
    refine r_bp (6) dX8_nesting_115 rfl ?_
    rcases hr with z | z
    · by_cases q6 : w = 6
      · exfalso
        rcases z.1 with q | q | q
        · omega
        · omega
        · omega
      · refine r_icmp_ne_t (tgt := 131) dX8_nesting_117 (by decide) (dn 6 (by decide) q6) ?_
        refine l131 r1 _ (Or.inl ⟨hN ▸ ?_, z.2⟩) l1
        rcases z.1 with q | q | q
        · exact Or.inl q
        · exact Or.inr (Or.inl q)
        · exact Or.inr (Or.inr (Or.inl q))
    · have e1 := z.2
      subst e1
      by_cases q6 : w = 6
      · refine r_icmp_ne_f (tgt := 131) dX8_nesting_117 (by decide) (by rw [q6]; rfl) ?_
        refine r_iload dX8_nesting_120 (by first | rfl | assumption) ?_
        cases hj : iL g with
        | none =>
          rw [show inL (kdG g) g.2.1 = none from hj]
          refine r_if_lt_t (tgt := 131) dX8_nesting_122 (by decide) (show (-1 : Int32) < 0 by decide) ?_
          refine l131 r1 _ (Or.inr ⟨fun q => ?_, eqx.rf⟩) l1
          rw [← hN] at q
          rcases q with q | q | q | q
          · omega
          · omega
          · omega
          · rw [hj] at q; cases q.2
        | some j =>
          have hst := h.stop hj
          rw [show inL (kdG g) g.2.1 = some j from hj]
          refine r_if_lt_f (tgt := 131) dX8_nesting_122 (by decide) (fun z => absurd z (Int32.not_lt.mpr (show nI 0 ≤ nI j from nI_le (Nat.zero_le _) (by omega)))) ?_
          refine r_aload_n dX8_nesting_125 (by first | rfl | assumption) ?_
          refine r_bp (6) dX8_nesting_126 rfl ?_
          refine r_callV1 dX8_nesting_128 zm_X8_189 RS_o rfl (Nat.le_of_ble_eq_true rfl) (Nat.le_of_ble_eq_true rfl) (C_X8_fl (k := 6) h ht (eqx.rf (A := [])) hb (by decide)) (fun v S9 hv => ?_)
          obtain ⟨rfl, r2, rfl, hB⟩ := hv
          exact l131 r2 _ (Or.inl ⟨hN ▸ Or.inr (Or.inr (Or.inr ⟨q6, by rw [hj]; rfl⟩)), hB⟩) l1
      · refine r_icmp_ne_t (tgt := 131) dX8_nesting_117 (by decide) (dn 6 (by decide) q6) ?_
        refine l131 r1 _ (Or.inr ⟨fun q => ?_, eqx.rf⟩) l1
        rw [← hN] at q
        rcases q with q | q | q | q
        · exact z.1 (Or.inl q)
        · exact z.1 (Or.inr (Or.inl q))
        · exact z.1 (Or.inr (Or.inr q))
        · exact q6 q.1
  have l102 : ((w = 3 ∧ kdA (kdG g) g.2.1 ≠ 1 ∧ kdA (kdG g) g.2.1 ≠ 2) ∨ w = 5 ∨ w = 7) → ∀ (L : Nat → Option Value), L 0 = some (.ref 165) → L 1 = some (.int (nI w)) → z_c1 (L 3) → Ru (d + 5) mX8_nesting 102 L [] (RS S r) (z_en mX8_nesting (nsP S g [] r N (fun _ => True))) := by
    intro q L l0 l1 l3
    refine r_aload_n dX8_nesting_102 (by first | rfl | assumption) ?_
    refine r_bp (6) dX8_nesting_103 rfl ?_
    refine r_callV1 dX8_nesting_105 zm_X8_189 RS_o rfl (Nat.le_of_ble_eq_true rfl) (Nat.le_of_ble_eq_true rfl) (C_X8_fl (k := 6) h ht (eqx.rf (A := [])) hb (by decide)) (fun v S9 hv => ?_)
    obtain ⟨rfl, r2, rfl, hB⟩ := hv
    exact l108 r2 L (Or.inl ⟨q, hB⟩) l0 l1 l3
  refine r_iload_n dX8_nesting_0 (by first | rfl | assumption) ?_
  refine r_ic (1) dX8_nesting_1 rfl ?_
  refine r_icmp_eq_f (tgt := 16) dX8_nesting_2 (by decide) (dn 1 (by decide) d1.1) ?_
  refine r_iload_n dX8_nesting_5 (by first | rfl | assumption) ?_
  refine r_ic (4) dX8_nesting_6 rfl ?_
  refine r_icmp_eq_f (tgt := 16) dX8_nesting_7 (by decide) (dn 4 (by decide) d1.2.1) ?_
  refine r_iload_n dX8_nesting_10 (by first | rfl | assumption) ?_
  refine r_bp (8) dX8_nesting_11 rfl ?_
  refine r_icmp_ne_t (tgt := 31) dX8_nesting_13 (by decide) (dn 8 (by decide) d1.2.2.1) ?_
  refine nst_op (A := []) h eqx.rf (by decide) rfl (z_c1_i rfl) ?_
  have hop := opn_k h
  refine r_iload_n dX8_nesting_59 (by first | rfl | assumption) ?_
  refine r_ic (2) dX8_nesting_60 rfl ?_
  refine r_icmp_ne_t (tgt := 82) dX8_nesting_61 (by decide) (dn 2 (by decide) d1.2.2.2.1) ?_
  refine r_iload_n dX8_nesting_82 (by first | rfl | assumption) ?_
  refine r_ic (3) dX8_nesting_83 rfl ?_
  have l91 : ¬ (w = 3 ∧ kdA (kdG g) g.2.1 ≠ 1 ∧ kdA (kdG g) g.2.1 ≠ 2) → ∀ (L : Nat → Option Value), L 0 = some (.ref 165) → L 1 = some (.int (nI w)) → z_c1 (L 3) → Ru (d + 5) mX8_nesting 91 L [] (RS S r) (z_en mX8_nesting (nsP S g [] r N (fun _ => True))) := by
    intro q L l0 l1 l3
    refine r_iload_n dX8_nesting_91 (by first | rfl | assumption) ?_
    refine r_ic (5) dX8_nesting_92 rfl ?_
    by_cases q5 : w = 5
    · refine r_icmp_eq_t (tgt := 102) dX8_nesting_93 (by decide) (by rw [q5]; rfl) ?_
      exact l102 (Or.inr (Or.inl q5)) L l0 l1 l3
    refine r_icmp_eq_f (tgt := 102) dX8_nesting_93 (by decide) (dn 5 (by decide) q5) ?_
    refine r_iload_n dX8_nesting_96 (by first | rfl | assumption) ?_
    refine r_bp (7) dX8_nesting_97 rfl ?_
    by_cases q7 : w = 7
    · refine r_icmp_ne_f (tgt := 108) dX8_nesting_99 (by decide) (by rw [q7]; rfl) ?_
      exact l102 (Or.inr (Or.inr q7)) L l0 l1 l3
    refine r_icmp_ne_t (tgt := 108) dX8_nesting_99 (by decide) (dn 7 (by decide) q7) ?_
    exact l108 r L (Or.inr ⟨fun z => z.elim q (fun z => z.elim q5 q7), rfl⟩) l0 l1 l3
  by_cases q3 : w = 3
  · refine r_icmp_ne_f (tgt := 91) dX8_nesting_84 (by decide) (by rw [q3]; rfl) ?_
    refine r_iload_n dX8_nesting_87 (by first | rfl | assumption) ?_
    cases ho : opn g with
    | false =>
      refine r_if_eq_t (tgt := 102) dX8_nesting_88 (by decide) (rfl) ?_
      refine l102 (Or.inl ⟨q3, fun z => ?_, fun z => ?_⟩) _ rfl rfl (z_c1_i rfl)
      · have := hop.mpr (Or.inl z); rw [ho] at this; cases this
      · have := hop.mpr (Or.inr z); rw [ho] at this; cases this
    | true =>
      refine r_if_eq_f (tgt := 102) dX8_nesting_88 (by decide) (show ¬ (1 : Int32) = 0 by decide) ?_
      refine l91 (fun z => ?_) _ rfl rfl (z_c1_i rfl)
      rcases hop.mp ho with q | q
      · exact z.2.1 q
      · exact z.2.2 q
  · refine r_icmp_ne_t (tgt := 91) dX8_nesting_84 (by decide) (dn 3 (by decide) q3) ?_
    exact l91 (fun z => q3 z.1) _ rfl rfl (z_c1_i rfl)
set_option maxRecDepth 10000 in
set_option maxHeartbeats 1000000 in
/-- a macro's name -/
theorem C_X8_nst8 {xs : List Nat} {ts : List zT} {dd : Nat} {q : zMa} (h : REL c g r) (ht : iL g = none → g.1.2.2.2.1 = g.1.1) (hb : r.1 11 = 0) (hL : LN r xs) (hl : xs.length ≤ 1024) (hT : TK r xs ts) (hE : r.2.1 238 ts.length = nI (skB xs (tle ts))) (hts : tks xs = some ts) (h1 : 1 ≤ ts.length) (hd : g.2.2.2.1[dd]? = some q) : Rc (d + 5) mX8_nesting [.ref 165, .int 8, .int (nI dd)] (RS S r) (nsP S g [229, 205 + g.2.1, 180 + g.2.1] r (g.2.1 = 20 ∨ q.2.2.1.length < (gat ts).length) (fun r' => AR r' g.2.1 xs (gat ts) ∧ ∀ j, j ≠ g.2.1 → r'.2.1 229 j = r.2.1 229 j)) := by
  have h20 := h.2.2.2.2.2.2.2.1
  have e19 := h.2.2.2.2.2.2.1
  have hMS := h.2.2.2.2.2.2.2.2.2.2
  obtain ⟨-, -, -, ⟨p, hp, hPL⟩, -⟩ := hMS.2.2 dd q hd
  have hdl : dd < g.2.2.2.1.length := (List.getElem?_eq_some_iff.mp hd).1
  have hml := hMS.2.1
  have nA : ∀ x, x < 180 ∨ 229 < x → x ∉ [229, 205 + g.2.1, 180 + g.2.1] := fun x hx z => by
    rcases List.mem_cons.mp z with z | z
    · omega
    · rcases List.mem_cons.mp z with z | z
      · omega
      · have := List.mem_singleton.mp z; omega
  refine Rc.of ?_
  have l31 : ∀ (r1 : zR) (L : Nat → Option Value), (g.2.1 = 20 ∧ BD g 6 [] r r1) ∨ (¬ g.2.1 = 20 ∧ r1 = r) → L 0 = some (.ref 165) → L 1 = some (.int 8) → L 2 = some (.int (nI dd)) → Ru (d + 5) mX8_nesting 31 L [] (RS S r1) (z_en mX8_nesting (nsP S g [229, 205 + g.2.1, 180 + g.2.1] r (g.2.1 = 20 ∨ q.2.2.1.length < (gat ts).length) (fun r' => AR r' g.2.1 xs (gat ts) ∧ ∀ j, j ≠ g.2.1 → r'.2.1 229 j = r.2.1 229 j))) := by
    intro r1 L hr l0 l1 l2
    have hx1 : eqx [11, 12, 46, 47, 48, 49] [] r r1 := by
      rcases hr with z | z
      · exact z.2.1
      · rw [z.2]; exact eqx.rf
    have hR1 : REL c g r1 := h.mv hx1 (by decide) (fun x hx => by cases hx)
    refine nst_op h hx1 (by decide) l0 (z_c1_i l2) ?_
    refine r_iload_n dX8_nesting_59 (by first | rfl | assumption) ?_
    refine r_ic (2) dX8_nesting_60 rfl ?_
    refine r_icmp_ne_t (tgt := 82) dX8_nesting_61 (by decide) (by decide) ?_
    refine r_iload_n dX8_nesting_82 (by first | rfl | assumption) ?_
    refine r_ic (3) dX8_nesting_83 rfl ?_
    refine r_icmp_ne_t (tgt := 91) dX8_nesting_84 (by decide) (by decide) ?_
    refine r_iload_n dX8_nesting_91 (by first | rfl | assumption) ?_
    refine r_ic (5) dX8_nesting_92 rfl ?_
    refine r_icmp_eq_f (tgt := 102) dX8_nesting_93 (by decide) (by decide) ?_
    refine r_iload_n dX8_nesting_96 (by first | rfl | assumption) ?_
    refine r_bp (7) dX8_nesting_97 rfl ?_
    refine r_icmp_ne_t (tgt := 108) dX8_nesting_99 (by decide) (by decide) ?_
    refine r_aload_n dX8_nesting_108 (by first | rfl | assumption) ?_
    refine r_callV0 dX8_nesting_109 zm_X8_183 RS_o rfl (Nat.le_of_ble_eq_true rfl) (Nat.le_of_ble_eq_true rfl) (C_X8_reader hR1.fk) (fun v S9 hv => ?_)
    obtain ⟨rfl, rfl⟩ := hv
    refine r_istore dX8_nesting_112 (by decide) (by first | assumption | exact z_c1_i (by first | rfl | assumption) | exact z_c1_r (by first | rfl | assumption) | exact z_c1_n (by first | rfl | assumption) | exact z_c1_c (by first | rfl | assumption) | exact z_c1_0 (by first | rfl | assumption)) ?_
    refine r_iload_n dX8_nesting_114 (by first | rfl | assumption) ?_
    refine r_bp (6) dX8_nesting_115 rfl ?_
    refine r_icmp_ne_t (tgt := 131) dX8_nesting_117 (by decide) (by decide) ?_
    refine r_iload_n dX8_nesting_131 (by first | rfl | assumption) ?_
    refine r_ic (1) dX8_nesting_132 rfl ?_
    refine r_icmp_eq_f (tgt := 141) dX8_nesting_133 (by decide) (by decide) ?_
    refine r_iload_n dX8_nesting_136 (by first | rfl | assumption) ?_
    refine r_ic (4) dX8_nesting_137 rfl ?_
    refine r_icmp_ne_t (tgt := 188) dX8_nesting_138 (by decide) (by decide) ?_
    refine r_iload_n dX8_nesting_188 (by first | rfl | assumption) ?_
    refine r_ic (2) dX8_nesting_189 rfl ?_
    refine r_icmp_ne_t (tgt := 238) dX8_nesting_190 (by decide) (by decide) ?_
    refine r_iload_n dX8_nesting_238 (by first | rfl | assumption) ?_
    refine r_bp (8) dX8_nesting_239 rfl ?_
    refine r_icmp_ne_f (tgt := 278) dX8_nesting_241 (by decide) (rfl) ?_
    refine r_aload_n dX8_nesting_244 (by first | rfl | assumption) ?_
    refine r8_get dX8_nesting_245 zf_X8_142 rfl ?_
    rcases hr with z | z
    · rw [z.2.2.1]
      refine r_if_ne_t (tgt := 278) dX8_nesting_248 (by decide) (nI_ne0 (by decide) (by decide)) ?_
      refine r_return dX8_nesting_278 rfl ⟨rfl, r1, rfl, Or.inl ⟨Or.inl z.1, z.2.1.mono (fun _ z => z) (fun _ z => by cases z), z.2.2⟩⟩
    · have e1 := z.2
      subst e1
      refine r_if_ne_f (tgt := 278) dX8_nesting_248 (by decide) (hb) ?_
      refine r_aload_n dX8_nesting_251 (by first | rfl | assumption) ?_
      refine r_callV0 dX8_nesting_252 zm_X8_255 RS_o rfl (Nat.le_of_ble_eq_true rfl) (Nat.le_of_ble_eq_true rfl) (C_X8_split hL hl hT hE hts h1 e19 (by omega)) (fun v S9 hv => ?_)
      obtain ⟨rfl, r2, rfl, ⟨hx2, hx229⟩, hAR⟩ := hv
      have hx2' : eqx [46, 47, 48, 49] [229, 205 + g.2.1, 180 + g.2.1] r1 r2 := hx2.mono (fun _ z => by cases z) (fun _ z => z)
      refine r_aload_n dX8_nesting_255 (by first | rfl | assumption) ?_
      refine r8_get dX8_nesting_256 zf_X8_66 rfl ?_
      refine r_aload_n dX8_nesting_259 (by first | rfl | assumption) ?_
      refine r8_get dX8_nesting_260 zf_X8_139 rfl ?_
      rw [(hx2.1 19 (by decide)).trans e19]
      refine r8_iald dX8_nesting_263 (by decide) (rfl) (by first | assumption | exact (show _ < 65536 by omega) | exact (show _ < 1100 by omega) | exact (show _ < 24 by omega) | exact (show _ < 2100 by omega) | exact (show _ < 6600 by omega) | exact (show _ < 1110 by omega)) ?_
      rw [hAR.1]
      refine r_aload_n dX8_nesting_264 (by first | rfl | assumption) ?_
      refine r_iload_n dX8_nesting_265 (by first | rfl | assumption) ?_
      refine r_callV1 dX8_nesting_266 zm_X8_258 RS_o rfl (Nat.le_of_ble_eq_true rfl) (Nat.le_of_ble_eq_true rfl) (C_X8_parametersOf (h.1.mv hx2 (by decide) (nA 167 (by omega))) (show dd < 6600 by omega) (by rw [(hx2.2 232 (nA 232 (by omega))).1]; exact hp) hPL) (fun v S9 hv => ?_)
      obtain ⟨rfl, rfl⟩ := hv
      have hgl := hAR.2.1
      by_cases q2 : (gat ts).length ≤ q.2.2.1.length
      · have hpl : q.2.2.1.length < 2 ^ 31 := by
          have := hPL.len
          have := h.1.2.1
          omega
        refine r_icmp_le_t (tgt := 278) dX8_nesting_269 (by decide) (nI_le q2 hpl) ?_
        refine r_return dX8_nesting_278 rfl ⟨rfl, r2, rfl, Or.inr ⟨fun w => w.elim z.1 (fun w => by omega), hx2', hAR, hx229⟩⟩
      · refine r_icmp_le_f (tgt := 278) dX8_nesting_269 (by decide) (nI_ge (by omega) (by omega)) ?_
        refine r_aload_n dX8_nesting_272 (by first | rfl | assumption) ?_
        refine r_bp (6) dX8_nesting_273 rfl ?_
        refine r_callV1 dX8_nesting_275 zm_X8_189 RS_o rfl (Nat.le_of_ble_eq_true rfl) (Nat.le_of_ble_eq_true rfl) (C_X8_fl (k := 6) h ht hx2' hb ⟨nA 169 (by omega), nA 175 (by omega)⟩) (fun v S9 hv => ?_)
        obtain ⟨rfl, r3, rfl, hB⟩ := hv
        refine r_return dX8_nesting_278 rfl ⟨rfl, r3, rfl, Or.inl ⟨Or.inr (by omega), hB⟩⟩
  refine r_iload_n dX8_nesting_0 (by first | rfl | assumption) ?_
  refine r_ic (1) dX8_nesting_1 rfl ?_
  refine r_icmp_eq_f (tgt := 16) dX8_nesting_2 (by decide) (by decide) ?_
  refine r_iload_n dX8_nesting_5 (by first | rfl | assumption) ?_
  refine r_ic (4) dX8_nesting_6 rfl ?_
  refine r_icmp_eq_f (tgt := 16) dX8_nesting_7 (by decide) (by decide) ?_
  refine r_iload_n dX8_nesting_10 (by first | rfl | assumption) ?_
  refine r_bp (8) dX8_nesting_11 rfl ?_
  refine r_icmp_ne_f (tgt := 31) dX8_nesting_13 (by decide) (rfl) ?_
  refine r_aload_n dX8_nesting_16 (by first | rfl | assumption) ?_
  refine r8_get dX8_nesting_17 zf_X8_139 rfl ?_
  refine r_bp (20) dX8_nesting_20 rfl ?_
  rw [e19]
  by_cases q0 : g.2.1 = 20
  · refine r_icmp_ne_f (tgt := 31) dX8_nesting_22 (by decide) (by rw [q0]; rfl) ?_
    refine r_aload_n dX8_nesting_25 (by first | rfl | assumption) ?_
    refine r_bp (6) dX8_nesting_26 rfl ?_
    refine r_callV1 dX8_nesting_28 zm_X8_189 RS_o rfl (Nat.le_of_ble_eq_true rfl) (Nat.le_of_ble_eq_true rfl) (C_X8_fl (k := 6) h ht (eqx.rf (A := [])) hb (by decide)) (fun v S9 hv => ?_)
    obtain ⟨rfl, r2, rfl, hB⟩ := hv
    exact l31 r2 _ (Or.inl ⟨q0, hB⟩) rfl rfl rfl
  · refine r_icmp_ne_t (tgt := 31) dX8_nesting_22 (by decide) (fun z => q0 ((nI_eq (b := 20) (by omega) (by decide)).mp z)) ?_
    exact l31 r _ (Or.inr ⟨q0, rfl⟩) rfl rfl rfl
end
