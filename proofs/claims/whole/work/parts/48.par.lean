/-! THE REFERENCE: a macro's places -/
def prs (xs : List Nat) (stop : Nat) : Nat → Nat → List (Nat × Nat)
  | 0, _ => []
  | m + 1, k => if stop ≤ k ∨ xs.getD k 0 = 59 then [] else if fNm (nI (xs.getD k 0)) = false then prs xs stop m (k + 1) else (k, nmE xs k stop - k) :: prs xs stop m (nmE xs k stop)
/-- behind a macro's name stand its places -/
def PL (xs : List Nat) (p : Nat) (ps : List (Nat × Nat)) : Prop := 1 ≤ p ∧ p ≤ eol xs p ∧ p ≤ xs.length ∧ prs xs (eol xs p) (eol xs p - p) p = ps ∧ (p < eol xs p → fNm (nI (xs.getD p 0)) = false)
section
variable {d : Nat} {S : zS} {r : zR} {xs : List Nat} {p pl en dd : Nat} {ps : List (Nat × Nat)}
theorem nmE_gt {k e : Nat} (h : k < e) (hn : fNm (nI (xs.getD k 0)) = true) : k < nmE xs k e ∧ nmE xs k e ≤ e := by
  have e1 : e - k = (e - k - 1) + 1 := by omega
  unfold nmE
  rw [e1]
  show k < (if fNm (nI (xs.getD k 0)) = true then skp (fun j => fNm (nI (xs.getD j 0))) (e - k - 1) (k + 1) else k) ∧ (if fNm (nI (xs.getD k 0)) = true then skp (fun j => fNm (nI (xs.getD j 0))) (e - k - 1) (k + 1) else k) ≤ e
  rw [if_pos hn]
  have := skp_le (fun j => fNm (nI (xs.getD j 0))) (e - k - 1) (k + 1)
  omega
def paP (S : zS) (r : zR) (ps : List (Nat × Nat)) (R : Option Nat) (v : Option Value) (S1 : zS) : Prop := ∃ r', S1 = RS S r' ∧ eqx [46] [] r r' ∧ match R with
  | none => v = some (.int 0)
  | some q => v = some (.int (nI (ps.getD q (0, 0)).2)) ∧ r'.1 46 = nI q
set_option maxRecDepth 10000 in
set_option maxHeartbeats 2000000 in
theorem C_X8_parameterAt (h : TP r xs) (hd : dd < 6600) (hp : r.2.1 232 dd = nI p) (hP : PL xs p ps) (hpl : pl ≤ en) (hen : en ≤ xs.length) : Rc (d + 2) mX8_parameterAt [.ref 165, .int (nI dd), .int (nI pl), .int (nI en)] (RS S r) (paP S r ps (plA xs pl en ps 0 none 0)) := by
  have h9 := h
  obtain ⟨h1, h2, h3⟩ := h
  obtain ⟨p1, p2, p3, p4, p5⟩ := hP
  have hst := eol_le (xs := xs) p3
  generalize hstop : eol xs p = stop at p2 p4 p5 hst
  have loop : ∀ (m k i : Nat) (best : Option Nat) (bl : Nat) (r1 : zR) (L : Nat → Option Value), stop - k ≤ m → k ≤ stop → ps.drop i = prs xs stop m k → plA xs pl en (prs xs stop m k) i best bl = plA xs pl en ps 0 none 0 → bl ≤ 512 → (best = none → bl = 0) → (∀ q, best = some q → bl = (ps.getD q (0, 0)).2 ∧ r1.1 46 = nI q) → eqx [46] [] r r1 → L 0 = some (.ref 165) → L 2 = some (.int (nI pl)) → L 3 = some (.int (nI en)) → L 4 = some (.int (nI bl)) → L 5 = some (.int (nI k)) → L 6 = some (.int (nI stop)) → L 7 = some (.int (nI i)) → z_c1 (L 8) → z_c1 (L 9) → Ru (d + 2) mX8_parameterAt 22 L [] (RS S r1) (z_en mX8_parameterAt (paP S r ps (plA xs pl en ps 0 none 0))) := by
    intro m
    induction m with
    | zero =>
      intro k i best bl r1 L hm hk hdr hpa hbl hb0 hb1 hx l0 l2 l3 l4 l5 l6 l7 l8 l9
      have hpa : best = plA xs pl en ps 0 none 0 := hpa
      refine r_iload dX8_parameterAt_22 (by first | rfl | assumption) ?_
      refine r_iload dX8_parameterAt_24 (by first | rfl | assumption) ?_
      refine r_icmp_ge_t (tgt := 195) dX8_parameterAt_26 (by decide) (nI_le (a := stop) (b := k) (by omega) (by omega)) ?_
      refine r_iload dX8_parameterAt_195 (by first | rfl | assumption) ?_
      refine r_ireturn dX8_parameterAt_197 _ rfl rfl ⟨r1, rfl, hx, ?_⟩
      rw [← hpa]
      cases best with
      | none => rw [hb0 rfl]; rfl
      | some q => exact ⟨by rw [(hb1 q rfl).1], (hb1 q rfl).2⟩
    | succ m ih =>
      intro k i best bl r1 L hm hk hdr hpa hbl hb0 hb1 hx l0 l2 l3 l4 l5 l6 l7 l8 l9
      have hT := (h9.mv hx (by decide) (by decide)).2.2
      have fin : (stop ≤ k ∨ xs.getD k 0 = 59) → Ru (d + 2) mX8_parameterAt 195 L [] (RS S r1) (z_en mX8_parameterAt (paP S r ps (plA xs pl en ps 0 none 0))) := by
        intro q
        have e : prs xs stop (m + 1) k = [] := if_pos q
        rw [e] at hpa
        have hpa : best = plA xs pl en ps 0 none 0 := hpa
        refine r_iload dX8_parameterAt_195 (by first | rfl | assumption) ?_
        refine r_ireturn dX8_parameterAt_197 _ rfl rfl ⟨r1, rfl, hx, ?_⟩
        rw [← hpa]
        cases best with
        | none => rw [hb0 rfl]; rfl
        | some q => exact ⟨by rw [(hb1 q rfl).1], (hb1 q rfl).2⟩
      refine r_iload dX8_parameterAt_22 (by first | rfl | assumption) ?_
      refine r_iload dX8_parameterAt_24 (by first | rfl | assumption) ?_
      by_cases q1 : stop ≤ k
      · refine r_icmp_ge_t (tgt := 195) dX8_parameterAt_26 (by decide) (nI_le (a := stop) (b := k) q1 (by omega)) ?_
        exact fin (Or.inl q1)
      refine r_icmp_ge_f (tgt := 195) dX8_parameterAt_26 (by decide) (nI_ge (a := k) (b := stop) (by omega) (by omega)) ?_
      have hkx := hT k (by omega)
      refine r_aload_n dX8_parameterAt_29 (by first | rfl | assumption) ?_
      refine r8_get dX8_parameterAt_30 zf_X8_14 rfl ?_
      refine r_iload dX8_parameterAt_33 (by first | rfl | assumption) ?_
      refine r8_bald dX8_parameterAt_35 (by decide) (rfl) (by first | assumption | exact (show _ < 65536 by omega) | exact (show _ < 1100 by omega) | exact (show _ < 24 by omega) | exact (show _ < 2100 by omega) | exact (show _ < 6600 by omega) | exact (show _ < 1110 by omega)) ?_
      rw [hkx.2]
      refine r_bp (59) dX8_parameterAt_36 rfl ?_
      by_cases q2 : xs.getD k 0 = 59
      · refine r_icmp_eq_t (tgt := 195) dX8_parameterAt_38 (by decide) ((sb_is hkx.1 (by decide)).mpr q2) ?_
        exact fin (Or.inr q2)
      refine r_icmp_eq_f (tgt := 195) dX8_parameterAt_38 (by decide) (fun z => q2 ((sb_is hkx.1 (c := 59) (by decide)).mp z)) ?_
      have e1 : prs xs stop (m + 1) k = if fNm (nI (xs.getD k 0)) = false then prs xs stop m (k + 1) else (k, nmE xs k stop - k) :: prs xs stop m (nmE xs k stop) := if_neg (fun z => z.elim q1 q2)
      refine r_aload_n dX8_parameterAt_41 (by first | rfl | assumption) ?_
      refine r8_get dX8_parameterAt_42 zf_X8_14 rfl ?_
      refine r_iload dX8_parameterAt_45 (by first | rfl | assumption) ?_
      refine r8_bald dX8_parameterAt_47 (by decide) (rfl) (by first | assumption | exact (show _ < 65536 by omega) | exact (show _ < 1100 by omega) | exact (show _ < 24 by omega) | exact (show _ < 2100 by omega) | exact (show _ < 6600 by omega) | exact (show _ < 1110 by omega)) ?_
      rw [hkx.2]
      refine r_callS1 dX8_parameterAt_48 zm_X8_117 (Nat.le_of_ble_eq_true rfl) (Nat.le_of_ble_eq_true rfl) (C_X8_isNamed) (fun v S9 hv => ?_)
      obtain ⟨rfl, rfl⟩ := hv
      rw [(sbx _ hkx.1).1]
      by_cases q3 : fNm (nI (xs.getD k 0)) = true
      · rw [if_neg (by rw [q3]; exact Bool.noConfusion)] at e1
        rw [e1] at hpa hdr
        have hnm := nmE_gt (xs := xs) (k := k) (e := stop) (by omega) q3
        rw [q3]
        refine r_if_ne_t (tgt := 60) dX8_parameterAt_51 (by decide) (show ¬ (1 : Int32) = 0 by decide) ?_
        generalize hn9 : nmE xs k stop - k = n at hpa hdr
        have hpi : ps.getD i (0, 0) = (k, n) := by
          have : (ps.drop i)[0]? = some (k, n) := by rw [hdr]; rfl
          rw [List.getElem?_drop, Nat.add_zero] at this
          rw [List.getD_eq_getElem?_getD, this]
          rfl
        have hdr2 : ps.drop (i + 1) = prs xs stop m (nmE xs k stop) := by
          have : (ps.drop i).drop 1 = prs xs stop m (nmE xs k stop) := by rw [hdr]; rfl
          rw [List.drop_drop] at this
          exact this
        rw [plA_s] at hpa
        -- behind the comparison
        have l160 : ∀ L : Nat → Option Value, L 0 = some (.ref 165) → L 2 = some (.int (nI pl)) → L 3 = some (.int (nI en)) → L 4 = some (.int (nI bl)) → L 5 = some (.int (nI k)) → L 6 = some (.int (nI stop)) → L 7 = some (.int (nI i)) → L 8 = some (.int (nI n)) → L 9 = some (.int (bI (decide (pl + n ≤ en ∧ ∀ j, j < n → xs.getD (k + j) 0 = xs.getD (pl + j) 0)))) → Ru (d + 2) mX8_parameterAt 160 L [] (RS S r1) (z_en mX8_parameterAt (paP S r ps (plA xs pl en ps 0 none 0))) := by
          intro L l0 l2 l3 l4 l5 l6 l7 l8 l9
          have hsam : (pl + n ≤ en ∧ ∀ j, j < n → xs.getD (k + j) 0 = xs.getD (pl + j) 0) ↔ (pl + n ≤ en ∧ sam xs k xs pl n = true) := by
            unfold sam eqs
            simp only [Bool.and_eq_true, decide_eq_true_eq]
            constructor
            · exact fun z => ⟨z.1, ⟨by omega, by omega⟩, z.2⟩
            · exact fun z => ⟨z.1, z.2.2⟩
          have l182 : ∀ (r2 : zR) (L : Nat → Option Value) (best2 : Option Nat) (bl2 : Nat), plA xs pl en (prs xs stop m (nmE xs k stop)) (i + 1) best2 bl2 = plA xs pl en ps 0 none 0 → bl2 ≤ 512 → (best2 = none → bl2 = 0) → (∀ q, best2 = some q → bl2 = (ps.getD q (0, 0)).2 ∧ r2.1 46 = nI q) → eqx [46] [] r r2 → L 0 = some (.ref 165) → L 2 = some (.int (nI pl)) → L 3 = some (.int (nI en)) → L 4 = some (.int (nI bl2)) → L 5 = some (.int (nI k)) → L 6 = some (.int (nI stop)) → L 7 = some (.int (nI i)) → L 8 = some (.int (nI n)) → z_c1 (L 9) → Ru (d + 2) mX8_parameterAt 182 L [] (RS S r2) (z_en mX8_parameterAt (paP S r ps (plA xs pl en ps 0 none 0))) := by
            intro r2 L best2 bl2 h5 h6 h7 h8 h10 l0 l2 l3 l4 l5 l6 l7 l8 l9
            refine r_inc (nI (i + 1)) dX8_parameterAt_182 (by first | rfl | assumption) (by decide) (by first | exact z_c1_i (by first | rfl | assumption) | exact z_c1_r (by first | rfl | assumption) | exact z_c1_n (by first | rfl | assumption) | exact z_c1_c (by first | rfl | assumption) | exact z_c1_0 (by first | rfl | assumption)) (nI_1 _) ?_
            refine r_iload dX8_parameterAt_185 (by first | rfl | assumption) ?_
            refine r_iload dX8_parameterAt_187 (by first | rfl | assumption) ?_
            refine r_iadd dX8_parameterAt_189 ?_
            rw [nI_add, show k + n = nmE xs k stop by omega]
            refine r_istore dX8_parameterAt_190 (by decide) (by first | exact z_c1_i (by first | rfl | assumption) | exact z_c1_r (by first | rfl | assumption) | exact z_c1_n (by first | rfl | assumption) | exact z_c1_c (by first | rfl | assumption) | exact z_c1_0 (by first | rfl | assumption)) ?_
            refine r_goto (tgt := 22) dX8_parameterAt_192 (by decide) ?_
            exact ih (nmE xs k stop) (i + 1) best2 bl2 r2 _ (by omega) hnm.2 hdr2 h5 h6 h7 h8 h10 l0 l2 l3 l4 rfl l6 rfl (z_c1_i (L := z_s1 (z_s1 L 7 _) 5 _) (i := 8) l8) l9
          refine r_iload dX8_parameterAt_160 (by first | rfl | assumption) ?_
          by_cases q4 : pl + n ≤ en ∧ ∀ j, j < n → xs.getD (k + j) 0 = xs.getD (pl + j) 0
          · rw [decide_eq_true q4]
            refine r_if_eq_f (tgt := 182) dX8_parameterAt_162 (by decide) (show ¬ (1 : Int32) = 0 by decide) ?_
            refine r_iload dX8_parameterAt_165 (by first | rfl | assumption) ?_
            refine r_iload dX8_parameterAt_167 (by first | rfl | assumption) ?_
            by_cases q5 : bl < n
            · refine r_icmp_le_f (tgt := 182) dX8_parameterAt_169 (by decide) (nI_ge (a := bl) (b := n) q5 (by omega)) ?_
              rw [if_pos ⟨q5, hsam.mp q4⟩] at hpa
              refine r_iload dX8_parameterAt_172 (by first | rfl | assumption) ?_
              refine r_istore dX8_parameterAt_174 (by decide) (by first | exact z_c1_i (by first | rfl | assumption) | exact z_c1_r (by first | rfl | assumption) | exact z_c1_n (by first | rfl | assumption) | exact z_c1_c (by first | rfl | assumption) | exact z_c1_0 (by first | rfl | assumption)) ?_
              refine r_aload_n dX8_parameterAt_176 (by first | rfl | assumption) ?_
              refine r_iload dX8_parameterAt_177 (by first | rfl | assumption) ?_
              refine r8_put dX8_parameterAt_179 zf_X8_171 (Nat.le_of_ble_eq_true rfl) rfl (⟨rfl, rfl⟩) ?_
              refine l182 _ _ (some i) n hpa (by omega) (fun z => by cases z) (fun q hq => ?_) (hx.tr (eqx.f (by decide))) l0 l2 l3 rfl l5 l6 l7 l8 (z_c1_i (L := z_s1 L 4 _) (i := 9) l9)
              cases hq
              exact ⟨by rw [hpi], rF_at⟩
            · refine r_icmp_le_t (tgt := 182) dX8_parameterAt_169 (by decide) (nI_le (a := n) (b := bl) (by omega) (by omega)) ?_
              rw [if_neg (fun z => q5 z.1)] at hpa
              exact l182 r1 L best bl hpa hbl hb0 hb1 hx l0 l2 l3 l4 l5 l6 l7 l8 (z_c1_i l9)
          · rw [decide_eq_false q4]
            refine r_if_eq_t (tgt := 182) dX8_parameterAt_162 (by decide) (rfl) ?_
            rw [if_neg (fun z => q4 (hsam.mpr z.2))] at hpa
            exact l182 r1 L best bl hpa hbl hb0 hb1 hx l0 l2 l3 l4 l5 l6 l7 l8 (z_c1_i l9)
        -- the comparison
        have l113 : ∀ (m3 j : Nat) (s : Bool) (L : Nat → Option Value), n - j = m3 → j ≤ n → s = decide (pl + n ≤ en ∧ ∀ j', j' < j → xs.getD (k + j') 0 = xs.getD (pl + j') 0) → L 0 = some (.ref 165) → L 2 = some (.int (nI pl)) → L 3 = some (.int (nI en)) → L 4 = some (.int (nI bl)) → L 5 = some (.int (nI k)) → L 6 = some (.int (nI stop)) → L 7 = some (.int (nI i)) → L 8 = some (.int (nI n)) → L 9 = some (.int (bI s)) → L 10 = some (.int (nI j)) → Ru (d + 2) mX8_parameterAt 113 L [] (RS S r1) (z_en mX8_parameterAt (paP S r ps (plA xs pl en ps 0 none 0))) := by
          intro m3
          induction m3 with
          | zero =>
            intro j s L hj hjn hs l0 l2 l3 l4 l5 l6 l7 l8 l9 l10
            have : j = n := by omega
            subst this
            refine r_iload dX8_parameterAt_113 (by first | rfl | assumption) ?_
            refine r_iload dX8_parameterAt_115 (by first | rfl | assumption) ?_
            refine r_icmp_ge_t (tgt := 160) dX8_parameterAt_117 (by decide) (nI_le (a := j) (b := j) (Nat.le_refl _) (by omega)) ?_
            exact l160 L l0 l2 l3 l4 l5 l6 l7 l8 (by rw [← hs]; exact l9)
          | succ m3 ih3 =>
            intro j s L hj hjn hs l0 l2 l3 l4 l5 l6 l7 l8 l9 l10
            refine r_iload dX8_parameterAt_113 (by first | rfl | assumption) ?_
            refine r_iload dX8_parameterAt_115 (by first | rfl | assumption) ?_
            refine r_icmp_ge_f (tgt := 160) dX8_parameterAt_117 (by decide) (nI_ge (a := j) (b := n) (by omega) (by omega)) ?_
            refine r_iload dX8_parameterAt_120 (by first | rfl | assumption) ?_
            cases hs9 : s with
            | false =>
              refine r_if_eq_t (tgt := 160) dX8_parameterAt_122 (by decide) (rfl) ?_
              rw [hs9] at hs l9
              refine l160 L l0 l2 l3 l4 l5 l6 l7 l8 ?_
              rw [decide_eq_false (fun z => of_decide_eq_false hs.symm ⟨z.1, fun j' hj' => z.2 j' (by omega)⟩)]
              exact l9
            | true =>
              refine r_if_eq_f (tgt := 160) dX8_parameterAt_122 (by decide) (show ¬ (1 : Int32) = 0 by decide) ?_
              rw [hs9] at hs
              have hs := of_decide_eq_true hs.symm
              have hy1 := hT (k + j) (by omega)
              have hy2 := hT (pl + j) (by omega)
              refine r_aload_n dX8_parameterAt_125 (by first | rfl | assumption) ?_
              refine r8_get dX8_parameterAt_126 zf_X8_14 rfl ?_
              refine r_iload dX8_parameterAt_129 (by first | rfl | assumption) ?_
              refine r_iload dX8_parameterAt_131 (by first | rfl | assumption) ?_
              refine r_iadd dX8_parameterAt_133 ?_
              rw [nI_add]
              refine r8_bald dX8_parameterAt_134 (by decide) (rfl) (by first | assumption | exact (show _ < 65536 by omega) | exact (show _ < 1100 by omega) | exact (show _ < 24 by omega) | exact (show _ < 2100 by omega) | exact (show _ < 6600 by omega) | exact (show _ < 1110 by omega)) ?_
              rw [hy1.2]
              refine r_aload_n dX8_parameterAt_135 (by first | rfl | assumption) ?_
              refine r8_get dX8_parameterAt_136 zf_X8_14 rfl ?_
              refine r_iload_n dX8_parameterAt_139 (by first | rfl | assumption) ?_
              refine r_iload dX8_parameterAt_140 (by first | rfl | assumption) ?_
              refine r_iadd dX8_parameterAt_142 ?_
              rw [nI_add]
              refine r8_bald dX8_parameterAt_143 (by decide) (rfl) (by first | assumption | exact (show _ < 65536 by omega) | exact (show _ < 1100 by omega) | exact (show _ < 24 by omega) | exact (show _ < 2100 by omega) | exact (show _ < 6600 by omega) | exact (show _ < 1110 by omega)) ?_
              rw [hy2.2]
              by_cases q6 : xs.getD (k + j) 0 = xs.getD (pl + j) 0
              · refine r_icmp_ne_f (tgt := 151) dX8_parameterAt_144 (by decide) (by rw [q6]) ?_
                refine r_ic (1) dX8_parameterAt_147 rfl ?_
                refine r_goto (tgt := 152) dX8_parameterAt_148 (by decide) ?_
                refine r_istore dX8_parameterAt_152 (by decide) (by first | exact z_c1_i (by first | rfl | assumption) | exact z_c1_r (by first | rfl | assumption) | exact z_c1_n (by first | rfl | assumption) | exact z_c1_c (by first | rfl | assumption) | exact z_c1_0 (by first | rfl | assumption)) ?_
                refine r_inc (nI (j + 1)) dX8_parameterAt_154 (by first | rfl | assumption) (by decide) (by first | exact z_c1_i (by first | rfl | assumption) | exact z_c1_r (by first | rfl | assumption) | exact z_c1_n (by first | rfl | assumption) | exact z_c1_c (by first | rfl | assumption) | exact z_c1_0 (by first | rfl | assumption)) (nI_1 _) ?_
                refine r_goto (tgt := 113) dX8_parameterAt_157 (by decide) ?_
                refine ih3 (j + 1) true _ (by omega) (by omega) ?_ l0 l2 l3 l4 l5 l6 l7 l8 rfl rfl
                refine (decide_eq_true ⟨hs.1, fun j' hj' => ?_⟩).symm
                by_cases e : j' = j
                · rw [e]; exact q6
                · exact hs.2 j' (by omega)
              · refine r_icmp_ne_t (tgt := 151) dX8_parameterAt_144 (by decide) (fun z => q6 ((sb_inj hy1.1 hy2.1).mp z)) ?_
                refine r_ic (0) dX8_parameterAt_151 rfl ?_
                refine r_istore dX8_parameterAt_152 (by decide) (by first | exact z_c1_i (by first | rfl | assumption) | exact z_c1_r (by first | rfl | assumption) | exact z_c1_n (by first | rfl | assumption) | exact z_c1_c (by first | rfl | assumption) | exact z_c1_0 (by first | rfl | assumption)) ?_
                refine r_inc (nI (j + 1)) dX8_parameterAt_154 (by first | rfl | assumption) (by decide) (by first | exact z_c1_i (by first | rfl | assumption) | exact z_c1_r (by first | rfl | assumption) | exact z_c1_n (by first | rfl | assumption) | exact z_c1_c (by first | rfl | assumption) | exact z_c1_0 (by first | rfl | assumption)) (nI_1 _) ?_
                refine r_goto (tgt := 113) dX8_parameterAt_157 (by decide) ?_
                refine ih3 (j + 1) false _ (by omega) (by omega) ?_ l0 l2 l3 l4 l5 l6 l7 l8 rfl rfl
                exact (decide_eq_false (fun z => q6 (z.2 j (Nat.lt_succ_self _)))).symm
        have l95 : ∀ L : Nat → Option Value, L 0 = some (.ref 165) → L 2 = some (.int (nI pl)) → L 3 = some (.int (nI en)) → L 4 = some (.int (nI bl)) → L 5 = some (.int (nI k)) → L 6 = some (.int (nI stop)) → L 7 = some (.int (nI i)) → L 8 = some (.int (nI n)) → Ru (d + 2) mX8_parameterAt 95 L [] (RS S r1) (z_en mX8_parameterAt (paP S r ps (plA xs pl en ps 0 none 0))) := by
          intro L l0 l2 l3 l4 l5 l6 l7 l8
          refine r_iload_n dX8_parameterAt_95 (by first | rfl | assumption) ?_
          refine r_iload dX8_parameterAt_96 (by first | rfl | assumption) ?_
          refine r_iadd dX8_parameterAt_98 ?_
          rw [nI_add]
          refine r_iload_n dX8_parameterAt_99 (by first | rfl | assumption) ?_
          by_cases q4 : pl + n ≤ en
          · refine r_icmp_gt_f (tgt := 107) dX8_parameterAt_100 (by decide) (fun z => absurd z (Int32.not_lt.mpr (nI_le q4 (by omega)))) ?_
            refine r_ic (1) dX8_parameterAt_103 rfl ?_
            refine r_goto (tgt := 108) dX8_parameterAt_104 (by decide) ?_
            refine r_istore dX8_parameterAt_108 (by decide) (by first | exact z_c1_i (by first | rfl | assumption) | exact z_c1_r (by first | rfl | assumption) | exact z_c1_n (by first | rfl | assumption) | exact z_c1_c (by first | rfl | assumption) | exact z_c1_0 (by first | rfl | assumption)) ?_
            refine r_ic (0) dX8_parameterAt_110 rfl ?_
            refine r_istore dX8_parameterAt_111 (by decide) (by first | exact z_c1_i (by first | rfl | assumption) | exact z_c1_r (by first | rfl | assumption) | exact z_c1_n (by first | rfl | assumption) | exact z_c1_c (by first | rfl | assumption) | exact z_c1_0 (by first | rfl | assumption)) ?_
            exact l113 n 0 true _ (Nat.sub_zero _) (Nat.zero_le _) (decide_eq_true ⟨q4, fun j' hj' => by omega⟩).symm l0 l2 l3 l4 l5 l6 l7 l8 rfl rfl
          · refine r_icmp_gt_t (tgt := 107) dX8_parameterAt_100 (by decide) (nI_lt (a := en) (b := pl + n) (by omega) (by omega)) ?_
            refine r_ic (0) dX8_parameterAt_107 rfl ?_
            refine r_istore dX8_parameterAt_108 (by decide) (by first | exact z_c1_i (by first | rfl | assumption) | exact z_c1_r (by first | rfl | assumption) | exact z_c1_n (by first | rfl | assumption) | exact z_c1_c (by first | rfl | assumption) | exact z_c1_0 (by first | rfl | assumption)) ?_
            refine r_ic (0) dX8_parameterAt_110 rfl ?_
            refine r_istore dX8_parameterAt_111 (by decide) (by first | exact z_c1_i (by first | rfl | assumption) | exact z_c1_r (by first | rfl | assumption) | exact z_c1_n (by first | rfl | assumption) | exact z_c1_c (by first | rfl | assumption) | exact z_c1_0 (by first | rfl | assumption)) ?_
            exact l113 n 0 false _ (Nat.sub_zero _) (Nat.zero_le _) (decide_eq_false (fun z => q4 z.1)).symm l0 l2 l3 l4 l5 l6 l7 l8 rfl rfl
        have l63 : ∀ (m2 n2 : Nat) (L : Nat → Option Value), stop - (k + n2) = m2 → k + n2 ≤ stop → skp (fun j => fNm (nI (xs.getD j 0))) m2 (k + n2) = nmE xs k stop → L 0 = some (.ref 165) → L 2 = some (.int (nI pl)) → L 3 = some (.int (nI en)) → L 4 = some (.int (nI bl)) → L 5 = some (.int (nI k)) → L 6 = some (.int (nI stop)) → L 7 = some (.int (nI i)) → L 8 = some (.int (nI n2)) → Ru (d + 2) mX8_parameterAt 63 L [] (RS S r1) (z_en mX8_parameterAt (paP S r ps (plA xs pl en ps 0 none 0))) := by
          intro m2
          induction m2 with
          | zero =>
            intro n2 L hm2 hk2 hs2 l0 l2 l3 l4 l5 l6 l7 l8
            have hs2 : k + n2 = nmE xs k stop := hs2
            refine r_iload dX8_parameterAt_63 (by first | rfl | assumption) ?_
            refine r_iload dX8_parameterAt_65 (by first | rfl | assumption) ?_
            refine r_iadd dX8_parameterAt_67 ?_
            rw [nI_add]
            refine r_iload dX8_parameterAt_68 (by first | rfl | assumption) ?_
            refine r_icmp_ge_t (tgt := 95) dX8_parameterAt_70 (by decide) (nI_le (a := stop) (b := k + n2) (by omega) (by omega)) ?_
            exact l95 L l0 l2 l3 l4 l5 l6 l7 (by rw [show n = n2 by omega]; exact l8)
          | succ m2 ih2 =>
            intro n2 L hm2 hk2 hs2 l0 l2 l3 l4 l5 l6 l7 l8
            have hy := hT (k + n2) (by omega)
            have hs3 : (if fNm (nI (xs.getD (k + n2) 0)) = true then skp (fun j => fNm (nI (xs.getD j 0))) m2 (k + n2 + 1) else k + n2) = nmE xs k stop := hs2
            refine r_iload dX8_parameterAt_63 (by first | rfl | assumption) ?_
            refine r_iload dX8_parameterAt_65 (by first | rfl | assumption) ?_
            refine r_iadd dX8_parameterAt_67 ?_
            rw [nI_add]
            refine r_iload dX8_parameterAt_68 (by first | rfl | assumption) ?_
            refine r_icmp_ge_f (tgt := 95) dX8_parameterAt_70 (by decide) (nI_ge (a := k + n2) (b := stop) (by omega) (by omega)) ?_
            refine r_aload_n dX8_parameterAt_73 (by first | rfl | assumption) ?_
            refine r8_get dX8_parameterAt_74 zf_X8_14 rfl ?_
            refine r_iload dX8_parameterAt_77 (by first | rfl | assumption) ?_
            refine r_iload dX8_parameterAt_79 (by first | rfl | assumption) ?_
            refine r_iadd dX8_parameterAt_81 ?_
            rw [nI_add]
            refine r8_bald dX8_parameterAt_82 (by decide) (rfl) (by first | assumption | exact (show _ < 65536 by omega) | exact (show _ < 1100 by omega) | exact (show _ < 24 by omega) | exact (show _ < 2100 by omega) | exact (show _ < 6600 by omega) | exact (show _ < 1110 by omega)) ?_
            rw [hy.2]
            refine r_callS1 dX8_parameterAt_83 zm_X8_117 (Nat.le_of_ble_eq_true rfl) (Nat.le_of_ble_eq_true rfl) (C_X8_isNamed) (fun v S9 hv => ?_)
            obtain ⟨rfl, rfl⟩ := hv
            rw [(sbx _ hy.1).1]
            by_cases q7 : fNm (nI (xs.getD (k + n2) 0)) = true
            · rw [if_pos q7] at hs3
              rw [q7]
              refine r_if_eq_f (tgt := 95) dX8_parameterAt_86 (by decide) (show ¬ (1 : Int32) = 0 by decide) ?_
              refine r_inc (nI (n2 + 1)) dX8_parameterAt_89 (by first | rfl | assumption) (by decide) (by first | exact z_c1_i (by first | rfl | assumption) | exact z_c1_r (by first | rfl | assumption) | exact z_c1_n (by first | rfl | assumption) | exact z_c1_c (by first | rfl | assumption) | exact z_c1_0 (by first | rfl | assumption)) (nI_1 _) ?_
              refine r_goto (tgt := 63) dX8_parameterAt_92 (by decide) ?_
              exact ih2 (n2 + 1) _ (by omega) (by omega) hs3 l0 l2 l3 l4 l5 l6 l7 rfl
            · rw [if_neg q7] at hs3
              rw [Bool.eq_false_iff.mpr q7]
              refine r_if_eq_t (tgt := 95) dX8_parameterAt_86 (by decide) (rfl) ?_
              exact l95 L l0 l2 l3 l4 l5 l6 l7 (by rw [show n = n2 by omega]; exact l8)
        refine r_ic (0) dX8_parameterAt_60 rfl ?_
        refine r_istore dX8_parameterAt_61 (by decide) (by first | exact z_c1_i (by first | rfl | assumption) | exact z_c1_r (by first | rfl | assumption) | exact z_c1_n (by first | rfl | assumption) | exact z_c1_c (by first | rfl | assumption) | exact z_c1_0 (by first | rfl | assumption)) ?_
        exact l63 (stop - k) 0 _ (by rw [Nat.add_zero]) (by omega) rfl l0 l2 l3 l4 l5 l6 l7 rfl
      · have q3 := Bool.eq_false_iff.mpr q3
        rw [if_pos q3] at e1
        rw [e1] at hpa hdr
        rw [q3]
        refine r_if_ne_f (tgt := 60) dX8_parameterAt_51 (by decide) (rfl) ?_
        refine r_inc (nI (k + 1)) dX8_parameterAt_54 (by first | rfl | assumption) (by decide) (by first | exact z_c1_i (by first | rfl | assumption) | exact z_c1_r (by first | rfl | assumption) | exact z_c1_n (by first | rfl | assumption) | exact z_c1_c (by first | rfl | assumption) | exact z_c1_0 (by first | rfl | assumption)) (nI_1 _) ?_
        refine r_goto (tgt := 22) dX8_parameterAt_57 (by decide) ?_
        exact ih (k + 1) i best bl r1 _ (by omega) (by omega) hdr hpa hbl hb0 hb1 hx l0 l2 l3 l4 rfl l6 l7 l8 l9
  refine Rc.of ?_
  refine r_ic (0) dX8_parameterAt_0 rfl ?_
  refine r_istore dX8_parameterAt_1 (by decide) (by first | exact z_c1_i (by first | rfl | assumption) | exact z_c1_r (by first | rfl | assumption) | exact z_c1_n (by first | rfl | assumption) | exact z_c1_c (by first | rfl | assumption) | exact z_c1_0 (by first | rfl | assumption)) ?_
  refine r_aload_n dX8_parameterAt_3 (by first | rfl | assumption) ?_
  refine r8_get dX8_parameterAt_4 zf_X8_75 rfl ?_
  refine r_iload_n dX8_parameterAt_7 (by first | rfl | assumption) ?_
  refine r8_iald dX8_parameterAt_8 (by decide) (rfl) (by first | assumption | exact (show _ < 65536 by omega) | exact (show _ < 1100 by omega) | exact (show _ < 24 by omega) | exact (show _ < 2100 by omega) | exact (show _ < 6600 by omega) | exact (show _ < 1110 by omega)) ?_
  rw [hp]
  refine r_istore dX8_parameterAt_9 (by decide) (by first | exact z_c1_i (by first | rfl | assumption) | exact z_c1_r (by first | rfl | assumption) | exact z_c1_n (by first | rfl | assumption) | exact z_c1_c (by first | rfl | assumption) | exact z_c1_0 (by first | rfl | assumption)) ?_
  refine r_aload_n dX8_parameterAt_11 (by first | rfl | assumption) ?_
  refine r_iload dX8_parameterAt_12 (by first | rfl | assumption) ?_
  refine r_callV1 dX8_parameterAt_14 zm_X8_163 RS_o rfl (Nat.le_of_ble_eq_true rfl) (Nat.le_of_ble_eq_true rfl) (C_X8_endOfLine h9 (show p ≤ 2000 by omega)) (fun v S9 hv => ?_)
  obtain ⟨rfl, rfl⟩ := hv
  rw [hstop]
  refine r_istore dX8_parameterAt_17 (by decide) (by first | exact z_c1_i (by first | rfl | assumption) | exact z_c1_r (by first | rfl | assumption) | exact z_c1_n (by first | rfl | assumption) | exact z_c1_c (by first | rfl | assumption) | exact z_c1_0 (by first | rfl | assumption)) ?_
  refine r_ic (0) dX8_parameterAt_19 rfl ?_
  refine r_istore dX8_parameterAt_20 (by decide) (by first | exact z_c1_i (by first | rfl | assumption) | exact z_c1_r (by first | rfl | assumption) | exact z_c1_n (by first | rfl | assumption) | exact z_c1_c (by first | rfl | assumption) | exact z_c1_0 (by first | rfl | assumption)) ?_
  refine loop (stop - p) p 0 none 0 r _ (Nat.le_refl _) p2 ?_ (by rw [p4]) (by decide) (fun _ => rfl) (fun q hq => by cases hq) eqx.rf rfl rfl rfl rfl rfl rfl rfl (z_c1_0 rfl) (z_c1_0 rfl)
  rw [p4]
  rfl
end
