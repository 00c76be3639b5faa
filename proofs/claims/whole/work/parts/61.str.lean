/-! THE REFERENCE: conditions and repetition -/
/-- a frame more, with no lines, which the next step ends -/
def RELX (c : zD) (g : zG) (r : zR) : Prop := ∃ o, g.1.1 = o + 1 ∧ o < cnt c ∧ g.2.1 < 20 ∧ r.1 19 = nI (g.2.1 + 1) ∧ r.2.1 169 g.2.1 = 4 ∧ r.2.1 170 g.2.1 = nI (lo c.2.1 o) ∧ r.1 5 = nI (lo c.2.1 o) ∧ r.2.1 172 g.2.1 = nI (lo c.2.1 o) ∧ r.2.1 171 g.2.1 = nI (o + 1) ∧ REL c g (rF (rF (rF r 5 (nI (eol c.2.1 (lo c.2.1 o) + 1))) 6 (nI (o + 1))) 19 (nI g.2.1))
def REL2 (c : zD) (g : zG) (r : zR) : Prop := REL c g r ∨ RELX c g r
/-- the reading ends -/
def DN (c : zD) (g1 : zG) (r : zR) : Prop := (∃ kd n, FK kd r n) ∧ TP r c.2.1 ∧ ((r.1 11 = nI g1.1.2.2.2.2 ∧ 0 < g1.1.2.2.2.2 ∧ g1.1.2.2.2.2 < 8 ∧ r.1 12 = nI g1.1.2.2.2.1) ∨ (r.1 11 = 0 ∧ g1.1.2.2.2.2 = 6 ∧ g1.1.2.2.2.1 = cnt c ∧ (∃ kd n, FK kd r n ∧ inL kd n = none ∧ (0 < n ∨ r.1 14 = 1)) ∧ ∃ a, r.1 5 = nI a ∧ c.2.1.length ≤ a ∧ a ≤ 2000))
/-- what else is the same -/
def kept (r r' : zR) : Prop := r'.1 3 = r.1 3 ∧ r'.1 15 = r.1 15 ∧ r'.1 16 = r.1 16 ∧ r'.1 0 = r.1 0 ∧ r'.2.1 166 = r.2.1 166 ∧ r'.2.2 241 = r.2.2 241
theorem eqx.kp {F A : List Nat} {r r' : zR} (h : eqx F A r r') (h1 : 3 ∉ F ∧ 15 ∉ F ∧ 16 ∉ F ∧ 0 ∉ F) (h2 : 166 ∉ A ∧ 241 ∉ A) : kept r r' := ⟨h.1 3 h1.1, h.1 15 h1.2.1, h.1 16 h1.2.2.1, h.1 0 h1.2.2.2, (h.2 166 h2.1).1, (h.2 241 h2.2).2⟩
theorem kept.tr {r r' r2 : zR} (h : kept r r') (k : kept r' r2) : kept r r2 := ⟨k.1.trans h.1, k.2.1.trans h.2.1, k.2.2.1.trans h.2.2.1, k.2.2.2.1.trans h.2.2.2.1, k.2.2.2.2.1.trans h.2.2.2.2.1, k.2.2.2.2.2.trans h.2.2.2.2.2⟩
theorem kept.rf {r : zR} : kept r r := ⟨rfl, rfl, rfl, rfl, rfl, rfl⟩
/-- behind a step -/
def stX (S : zS) (c : zD) (r : zR) (res : zG × Nat) (v : Option Value) (S1 : zS) : Prop := v = none ∧ ∃ r', S1 = RS S r' ∧ kept r r' ∧ ((res.2 = 0 ∧ r'.1 11 = 0 ∧ REL2 c res.1 r') ∨ (res.2 = 2 ∧ DN c res.1 r'))
section
variable {d : Nat} {S : zS} {r r' : zR} {c : zD} {g : zG}
theorem REL.fr (h : REL c g r) (hf : ∀ x, x ∈ [4, 5, 6, 9, 10, 14, 19, 33] → r'.1 x = r.1 x) (h167 : r'.2.1 167 = r.2.1 167) (hfr : ∀ j, j < g.2.1 → fre r r' j) (hm : ∀ k, 230 ≤ k → k ≤ 235 → r'.2.1 k = r.2.1 k) : REL c g r' := by
  obtain ⟨h1, h2, h3, h4, h5, h6, h7, h8, h9, h10, h11⟩ := h
  refine ⟨⟨(hf 4 (by decide)).trans h1.1, h1.2.1, by rw [h167]; exact h1.2.2⟩, by rw [hf 5 (by decide)]; exact h2, (hf 6 (by decide)).trans h3, (hf 9 (by decide)).trans h4, (hf 10 (by decide)).trans h5, (hf 14 (by decide)).trans h6, (hf 19 (by decide)).trans h7, h8, fun j hj => (h9 j hj).mv (hfr j hj) rfl (fun _ _ z => z), fun j hj => ?_, h11.mv (hf 33 (by decide)) hm⟩
  rw [(hfr j (ouL_some _ _ hj).1).1 175 (by decide) (by decide)]
  exact h10 j hj
theorem BD.dn {k : Nat} {A : List Nat} (h : REL c g r) (hB : BD g k A r r') (hk : 0 < k ∧ k < 8) (hA : 169 ∉ A ∧ 167 ∉ A) : DN c (gFl g k) r' := ⟨⟨_, _, h.fk.mv hB.1 (by decide) hA.1⟩, h.1.mv hB.1 (by decide) hA.2, Or.inl ⟨hB.2.1, hk.1, hk.2, hB.2.2⟩⟩
theorem fnd_oe {ws : List Nat} {en bg : Nat} {cn : Bool} : ∀ (n i op o : Nat), fnd ws en bg cn false n i op = some o → ∃ o', fnd ws en bg cn true n i op = some o'
  | 0, i, op, o, h => by cases h
  | n + 1, i, op, o, h => by
    have h : (if op = 0 ∧ (ws.getD i 0 = en ∨ (false = true ∧ ws.getD i 0 = 2)) then some i else fnd ws en bg cn false n (i + 1) (if ws.getD i 0 = en then op - 1 else if cn = true ∧ ws.getD i 0 = bg then op + 1 else op)) = some o := h
    show ∃ o', (if op = 0 ∧ (ws.getD i 0 = en ∨ (true = true ∧ ws.getD i 0 = 2)) then some i else fnd ws en bg cn true n (i + 1) (if ws.getD i 0 = en then op - 1 else if cn = true ∧ ws.getD i 0 = bg then op + 1 else op)) = some o'
    by_cases q : op = 0 ∧ (ws.getD i 0 = en ∨ (true = true ∧ ws.getD i 0 = 2))
    · exact ⟨i, if_pos q⟩
    · rw [if_neg q]
      rw [if_neg (fun z => q ⟨z.1, z.2.imp id (fun w => by cases w.1)⟩)] at h
      exact fnd_oe n _ _ o h
/-- nothing ends it -/
theorem un_dn {r1 : zR} (h : REL c g r) (hx : eqx [5, 14, 46, 47, 48, 49] [] r r1) (hb : r.1 11 = 0) (h5 : r1.1 5 = r.1 4) (hn : iL g = none) (h0 : 0 < g.2.1 ∨ r1.1 14 = 1) : DN c (gUn c g) r1 := by
  have hf := h.fk.mv hx (by decide) (by decide)
  have := h.1.2.1
  exact ⟨⟨_, _, hf⟩, h.1.mv hx (by decide) (by decide), Or.inr ⟨(hx.1 11 (by decide)).trans hb, rfl, rfl, ⟨_, _, hf, hn, h0⟩, c.2.1.length, by rw [h5, h.1.1], Nat.le_refl _, by omega⟩⟩
theorem str_pre {L : Nat → Option Value} {Q : Nat → List Value → zS → Prop} {x : Int32} (h : REL c g r) (l0 : L 0 = some (.ref 165)) (l1 : L 1 = some (.int x)) (K : ∀ L2 : Nat → Option Value, L2 0 = some (.ref 165) → L2 1 = some (.int x) → z_c1 (L2 2) → L2 3 = some (.int (nI (lo c.2.1 (lim7 c g)))) → (∀ j, 4 ≤ j → L2 j = L j) → Ru (d + 1) mX8_structure 23 L2 [] (RS S r) Q) : Ru (d + 1) mX8_structure 0 L [] (RS S r) Q := by
  refine r_aload_n dX8_structure_0 (by first | rfl | assumption) ?_
  refine r_callV0 dX8_structure_1 zm_X8_183 RS_o rfl (Nat.le_of_ble_eq_true rfl) (Nat.le_of_ble_eq_true rfl) (C_X8_reader h.fk) (fun v S9 hv => ?_)
  obtain ⟨rfl, rfl⟩ := hv
  cases hj : iL g with
  | none =>
    rw [show inL (kdG g) g.2.1 = none from hj]
    refine r_istore_n dX8_structure_4 (by decide) (by first | assumption | exact z_c1_i (by first | rfl | assumption) | exact z_c1_r (by first | rfl | assumption) | exact z_c1_n (by first | rfl | assumption) | exact z_c1_c (by first | rfl | assumption) | exact z_c1_0 (by first | rfl | assumption)) ?_
    refine r_iload_n dX8_structure_5 (by first | rfl | assumption) ?_
    refine r_if_lt_t (tgt := 18) dX8_structure_6 (by decide) (show (-1 : Int32) < 0 by decide) ?_
    refine r_aload_n dX8_structure_18 (by first | rfl | assumption) ?_
    refine r8_get dX8_structure_19 zf_X8_160 rfl ?_
    rw [h.1.1, show c.2.1.length = lo c.2.1 (lim7 c g) by rw [show lim7 c g = cnt c by unfold lim7; rw [hj]]; exact (lo_out (Nat.le_refl _)).symm]
    refine r_istore_n dX8_structure_22 (by decide) (by first | assumption | exact z_c1_i (by first | rfl | assumption) | exact z_c1_r (by first | rfl | assumption) | exact z_c1_n (by first | rfl | assumption) | exact z_c1_c (by first | rfl | assumption) | exact z_c1_0 (by first | rfl | assumption)) ?_
    exact K _ l0 l1 (z_c1_i rfl) rfl (fun j hj => by show (if j = 3 then _ else if j = 2 then _ else L j) = L j; rw [if_neg (by omega), if_neg (by omega)])
  | some j =>
    have hst := h.stop hj
    rw [show inL (kdG g) g.2.1 = some j from hj, show oI (some j) = nI j from rfl]
    refine r_istore_n dX8_structure_4 (by decide) (by first | assumption | exact z_c1_i (by first | rfl | assumption) | exact z_c1_r (by first | rfl | assumption) | exact z_c1_n (by first | rfl | assumption) | exact z_c1_c (by first | rfl | assumption) | exact z_c1_0 (by first | rfl | assumption)) ?_
    refine r_iload_n dX8_structure_5 (by first | rfl | assumption) ?_
    refine r_if_lt_f (tgt := 18) dX8_structure_6 (by decide) (fun z => absurd z (Int32.not_lt.mpr (show nI 0 ≤ nI j from nI_le (Nat.zero_le _) (by omega)))) ?_
    refine r_aload_n dX8_structure_9 (by first | rfl | assumption) ?_
    refine r8_get dX8_structure_10 zf_X8_28 rfl ?_
    refine r_iload_n dX8_structure_13 (by first | rfl | assumption) ?_
    refine r8_iald dX8_structure_14 (by decide) (rfl) (by first | assumption | exact (show _ < 65536 by omega) | exact (show _ < 1100 by omega) | exact (show _ < 24 by omega) | exact (show _ < 2100 by omega) | exact (show _ < 6600 by omega) | exact (show _ < 1110 by omega)) ?_
    rw [hst.1]
    refine r_goto (tgt := 22) dX8_structure_15 (by decide) ?_
    refine r_istore_n dX8_structure_22 (by decide) (by first | assumption | exact z_c1_i (by first | rfl | assumption) | exact z_c1_r (by first | rfl | assumption) | exact z_c1_n (by first | rfl | assumption) | exact z_c1_c (by first | rfl | assumption) | exact z_c1_0 (by first | rfl | assumption)) ?_
    exact K _ l0 l1 (z_c1_i rfl) rfl (fun j hj => by show (if j = 3 then _ else if j = 2 then _ else L j) = L j; rw [if_neg (by omega), if_neg (by omega)])
theorem REL.behind {o : Nat} {x : Int32} (h : REL c g r) (ho : o < cnt c) : REL c (gPos g (o + 1)) (rF (rF (rFd r (nI (lo c.2.1 o)) (nI (o + 1)) x (nI (lo c.2.1 (o + 1)))) 5 (nI (lo c.2.1 (o + 1)))) 6 (nI (o + 1))) := by
  have h1 : REL c g (rFd r (nI (lo c.2.1 o)) (nI (o + 1)) x (nI (lo c.2.1 (o + 1)))) := h.mv rFd_x (by decide) (fun x hx => by cases hx)
  exact h1.at ((eqx.f (by decide)).tr (eqx.f (by decide))) rfl (atL_lo ho h.1.2.1) rfl
set_option maxRecDepth 10000 in
set_option maxHeartbeats 2000000 in
/-- else, endif -/
theorem C_X8_str23 {w : Nat} {xs : List Nat} {ts : List zT} (h : REL c g r) (ht : iL g = none → g.1.2.2.2.1 = g.1.1) (hb : r.1 11 = 0) (hT : TK r xs ts) (hct : c.2.2.2.1 = ts) (h1 : 1 ≤ ts.length) (hw : w = 2 ∨ w = 3) (hk : w = 2 → ¬ (kdA (kdG g) g.2.1 ≠ 1 ∨ ((fz c g 1 false).isNone && (iL g).isSome) = true)) (hk3 : w = 3 → ¬ (kdA (kdG g) g.2.1 ≠ 1 ∧ kdA (kdG g) g.2.1 ≠ 2)) : Rc (d + 5) mX8_structure [.ref 165, .int (nI w)] (RS S r) (stX S c r (if w = 2 then cElse c g else cEndif c g)) := by
  have hts := hT.2.1
  have e19 := h.2.2.2.2.2.2.1
  have h20 := h.2.2.2.2.2.2.2.1
  have hpos : 0 < g.2.1 := by
    rcases hw with e | e
    · rcases Nat.eq_zero_or_pos g.2.1 with z | z
      · exact absurd (Or.inl (by rw [z]; exact show (0 : Int32) ≠ 1 by decide)) (hk e)
      · exact z
    · rcases Nat.eq_zero_or_pos g.2.1 with z | z
      · exact absurd (by rw [z]; exact show (0 : Int32) ≠ 1 ∧ (0 : Int32) ≠ 2 by decide) (hk3 e)
      · exact z
  generalize hres : (if w = 2 then cElse c g else cEndif c g) = res
  refine Rc.of (str_pre h rfl rfl ?_)
  intro L l0 l1 l2 l3 lj
  have l44 : Ru (d + 5) mX8_structure 44 L [] (RS S r) (z_en mX8_structure (stX S c r res)) := by
    refine r_ic (1) dX8_structure_44 rfl ?_
    refine r_goto (tgt := 49) dX8_structure_45 (by decide) ?_
    refine r_istore dX8_structure_49 (by decide) (by first | assumption | exact z_c1_i (by first | rfl | assumption) | exact z_c1_r (by first | rfl | assumption) | exact z_c1_n (by first | rfl | assumption) | exact z_c1_c (by first | rfl | assumption) | exact z_c1_0 (by first | rfl | assumption)) ?_
    refine r_iload dX8_structure_51 (by first | rfl | assumption) ?_
    refine r_if_eq_f (tgt := 67) dX8_structure_53 (by decide) (show ¬ (1 : Int32) = 0 by decide) ?_
    refine r_aload_n dX8_structure_56 (by first | rfl | assumption) ?_
    refine r8_get dX8_structure_57 zf_X8_215 rfl ?_
    refine r_ic (1) dX8_structure_60 rfl ?_
    rw [hT.1]
    by_cases q1 : ts.length = 1
    · refine r_icmp_le_t (tgt := 90) dX8_structure_61 (by decide) (nI_le (a := ts.length) (b := 1) (by omega) (by decide)) ?_
      refine r_aload_n dX8_structure_90 (by first | rfl | assumption) ?_
      refine r8_get dX8_structure_91 zf_X8_142 rfl ?_
      refine r_if_eq_t (tgt := 98) dX8_structure_94 (by decide) (hb) ?_
      refine r_iload dX8_structure_98 (by first | rfl | assumption) ?_
      refine r_if_eq_f (tgt := 177) dX8_structure_100 (by decide) (show ¬ (1 : Int32) = 0 by decide) ?_
      refine r_iload_n dX8_structure_103 (by first | rfl | assumption) ?_
      refine r_ic (3) dX8_structure_104 rfl ?_
      rcases hw with rfl | rfl
      · refine r_icmp_eq_f (tgt := 129) dX8_structure_105 (by decide) (by decide) ?_
        have hk := hk rfl
        have hk1 : kdA (kdG g) g.2.1 = 1 := Classical.not_not.mp (fun z => hk (Or.inl z))
        have hres : cElse c g = res := hres
        have e1 : cElse c g = match fz c g 1 false with
            | none => (gUn c g, 2)
            | some o => (gCl (gPos g (o + 1)), 0) := by
          unfold cElse
          rw [if_neg (fun z => z hk1), if_neg (fun z => hk (Or.inr z)), hct, if_neg (fun z => z q1)]
          rfl
        refine r_aload_n dX8_structure_108 (by first | rfl | assumption) ?_
        refine r_aload_n dX8_structure_109 (by first | rfl | assumption) ?_
        refine r8_get dX8_structure_110 zf_X8_186 rfl ?_
        refine r_aload_n dX8_structure_113 (by first | rfl | assumption) ?_
        refine r8_get dX8_structure_114 zf_X8_136 rfl ?_
        rw [h.2.2.1]
        refine r_ic (1) dX8_structure_117 rfl ?_
        refine r_iadd dX8_structure_118 ?_
        rw [nI_1]
        refine r_iload_n dX8_structure_119 (by first | rfl | assumption) ?_
        refine r_ic (1) dX8_structure_120 rfl ?_
        refine r_ic (3) dX8_structure_121 rfl ?_
        refine r_ic (0) dX8_structure_122 rfl ?_
        refine r_callV6 dX8_structure_123 zm_X8_251 RS_o rfl (Nat.le_of_ble_eq_true rfl) (Nat.le_of_ble_eq_true rfl) (C_X8_fz (bg := 1) (en := 3) (oe := false) h (Or.inl rfl) rfl) (fun v S9 hv => ?_)
        cases hf : fz c g 1 false with
        | none =>
          rw [hf] at hv e1
          obtain ⟨rfl, rfl⟩ := hv
          have hn : iL g = none := by
            cases hj : iL g with
            | none => rfl
            | some j => exact absurd (Or.inr (by rw [hf, hj]; rfl)) hk
          refine r_if_eq_t (tgt := 133) dX8_structure_126 (by decide) (rfl) ?_
          refine r_ic (0) dX8_structure_133 rfl ?_
          refine r_istore dX8_structure_134 (by decide) (by first | assumption | exact z_c1_i (by first | rfl | assumption) | exact z_c1_r (by first | rfl | assumption) | exact z_c1_n (by first | rfl | assumption) | exact z_c1_c (by first | rfl | assumption) | exact z_c1_0 (by first | rfl | assumption)) ?_
          refine r_iload dX8_structure_136 (by first | rfl | assumption) ?_
          refine r_if_eq_t (tgt := 154) dX8_structure_138 (by decide) (rfl) ?_
          refine r_aload_n dX8_structure_154 (by first | rfl | assumption) ?_
          refine r_aload_n dX8_structure_155 (by first | rfl | assumption) ?_
          refine r8_get dX8_structure_156 zf_X8_160 rfl ?_
          refine r8_put dX8_structure_159 zf_X8_186 (Nat.le_of_ble_eq_true rfl) rfl (⟨rfl, rfl⟩) ?_
          refine r_iload dX8_structure_162 (by first | rfl | assumption) ?_
          refine r_if_eq_t (tgt := 176) dX8_structure_164 (by decide) (rfl) ?_
          refine r_return dX8_structure_176 rfl ⟨rfl, _, rfl, (eqx.f (F := [5]) (A := []) (by decide)).kp (by decide) (by decide), Or.inr ?_⟩
          rw [← hres, e1]
          exact ⟨rfl, un_dn h (eqx.f (by decide)) hb rfl hn (Or.inl hpos)⟩
        | some o =>
          rw [hf] at hv e1
          obtain ⟨rfl, rfl⟩ := hv
          have ho := fz_lt hf
          have hol : o < cnt c := Nat.lt_of_lt_of_le ho.2 h.lim
          refine r_if_eq_f (tgt := 133) dX8_structure_126 (by decide) (show ¬ (1 : Int32) = 0 by decide) ?_
          refine r_ic (1) dX8_structure_129 rfl ?_
          refine r_goto (tgt := 134) dX8_structure_130 (by decide) ?_
          refine r_istore dX8_structure_134 (by decide) (by first | assumption | exact z_c1_i (by first | rfl | assumption) | exact z_c1_r (by first | rfl | assumption) | exact z_c1_n (by first | rfl | assumption) | exact z_c1_c (by first | rfl | assumption) | exact z_c1_0 (by first | rfl | assumption)) ?_
          refine r_iload dX8_structure_136 (by first | rfl | assumption) ?_
          refine r_if_eq_f (tgt := 154) dX8_structure_138 (by decide) (show ¬ (1 : Int32) = 0 by decide) ?_
          refine r_aload_n dX8_structure_141 (by first | rfl | assumption) ?_
          refine r_dup dX8_structure_142 rfl ?_
          refine r8_get dX8_structure_143 zf_X8_139 rfl ?_
          refine r_ic (1) dX8_structure_146 rfl ?_
          rw [show (rFd r (nI (lo c.2.1 o)) (nI (o + 1)) (nI ((wsO c.2.1).getD o 0)) (nI (lo c.2.1 (o + 1)))).1 19 = nI g.2.1 from e19]
          refine r_isub dX8_structure_147 ?_
          rw [show (nI g.2.1 - 1 : Int32) = nI (g.2.1 - 1) from nI_sub (a := g.2.1) (b := 1) hpos]
          refine r8_put dX8_structure_148 zf_X8_139 (Nat.le_of_ble_eq_true rfl) rfl (⟨rfl, rfl⟩) ?_
          refine r_goto (tgt := 162) dX8_structure_151 (by decide) ?_
          refine r_iload dX8_structure_162 (by first | rfl | assumption) ?_
          refine r_if_eq_f (tgt := 176) dX8_structure_164 (by decide) (show ¬ (1 : Int32) = 0 by decide) ?_
          refine r_iload_n dX8_structure_167 (by first | rfl | assumption) ?_
          refine r_ic (2) dX8_structure_168 rfl ?_
          refine r_icmp_ne_f (tgt := 176) dX8_structure_169 (by decide) (rfl) ?_
          refine r_aload_n dX8_structure_172 (by first | rfl | assumption) ?_
          refine r_callV0 dX8_structure_173 zm_X8_275 RS_o rfl (Nat.le_of_ble_eq_true rfl) (Nat.le_of_ble_eq_true rfl) (C_X8_goBehind) (fun v S9 hv => ?_)
          obtain ⟨rfl, rfl⟩ := hv
          refine r_return dX8_structure_176 rfl ⟨rfl, _, rfl, ?_, Or.inl ?_⟩
          · exact ((rFd_x.mono (F2 := [5, 6, 19, 46, 47, 48, 49]) (A2 := []) (by decide) (by decide)).tr ((eqx.f (by decide)).tr ((eqx.f (by decide)).tr (eqx.f (by decide))))).kp (by decide) (by decide)
          rw [← hres, e1]
          refine ⟨rfl, hb, Or.inl ?_⟩
          have hb2 := (h.behind (x := nI ((wsO c.2.1).getD o 0)) hol)
          refine (hb2.sz (n := g.2.1 - 1) (Nat.sub_le _ _) (r' := rF (rF (rF (rFd r (nI (lo c.2.1 o)) (nI (o + 1)) (nI ((wsO c.2.1).getD o 0)) (nI (lo c.2.1 (o + 1)))) 19 (nI (g.2.1 - 1))) 5 (nI (lo c.2.1 (o + 1)))) 6 (nI (o + 1))) ⟨fun i hi => ?_, fun _ _ => ⟨rfl, rfl⟩⟩ rfl)
          have hi : i ≠ 19 := fun z => hi (List.mem_singleton.mpr z)
          show (rF (rF (rF _ 19 _) 5 _) 6 _).1 i = (rF (rF _ 5 _) 6 _).1 i
          unfold rF va_up
          show (if i = 6 then _ else if i = 5 then _ else if i = 19 then _ else _) = (if i = 6 then _ else if i = 5 then _ else _)
          rw [if_neg hi]
      · refine r_icmp_eq_t (tgt := 129) dX8_structure_105 (by decide) (rfl) ?_
        have hres : cEndif c g = res := hres
        have e1 : cEndif c g = (gCl g, 0) := by
          unfold cEndif
          rw [if_neg (hk3 rfl), hct, if_neg (fun z => z q1)]
        refine r_ic (1) dX8_structure_129 rfl ?_
        refine r_goto (tgt := 134) dX8_structure_130 (by decide) ?_
        refine r_istore dX8_structure_134 (by decide) (by first | assumption | exact z_c1_i (by first | rfl | assumption) | exact z_c1_r (by first | rfl | assumption) | exact z_c1_n (by first | rfl | assumption) | exact z_c1_c (by first | rfl | assumption) | exact z_c1_0 (by first | rfl | assumption)) ?_
        refine r_iload dX8_structure_136 (by first | rfl | assumption) ?_
        refine r_if_eq_f (tgt := 154) dX8_structure_138 (by decide) (show ¬ (1 : Int32) = 0 by decide) ?_
        refine r_aload_n dX8_structure_141 (by first | rfl | assumption) ?_
        refine r_dup dX8_structure_142 rfl ?_
        refine r8_get dX8_structure_143 zf_X8_139 rfl ?_
        refine r_ic (1) dX8_structure_146 rfl ?_
        rw [e19]
        refine r_isub dX8_structure_147 ?_
        rw [show (nI g.2.1 - 1 : Int32) = nI (g.2.1 - 1) from nI_sub (a := g.2.1) (b := 1) hpos]
        refine r8_put dX8_structure_148 zf_X8_139 (Nat.le_of_ble_eq_true rfl) rfl (⟨rfl, rfl⟩) ?_
        refine r_goto (tgt := 162) dX8_structure_151 (by decide) ?_
        refine r_iload dX8_structure_162 (by first | rfl | assumption) ?_
        refine r_if_eq_f (tgt := 176) dX8_structure_164 (by decide) (show ¬ (1 : Int32) = 0 by decide) ?_
        refine r_iload_n dX8_structure_167 (by first | rfl | assumption) ?_
        refine r_ic (2) dX8_structure_168 rfl ?_
        refine r_icmp_ne_t (tgt := 176) dX8_structure_169 (by decide) (by decide) ?_
        refine r_return dX8_structure_176 rfl ⟨rfl, _, rfl, (eqx.f (F := [19]) (A := []) (by decide)).kp (by decide) (by decide), Or.inl ?_⟩
        rw [← hres, e1]
        exact ⟨rfl, hb, Or.inl (h.sz (Nat.sub_le _ _) (eqx.f (by decide)) rfl)⟩
    · refine r_icmp_le_f (tgt := 90) dX8_structure_61 (by decide) (nI_ge (a := 1) (b := ts.length) (by omega) (by omega)) ?_
      refine r_goto (tgt := 85) dX8_structure_64 (by decide) ?_
      refine r_aload_n dX8_structure_85 (by first | rfl | assumption) ?_
      refine r_ic (1) dX8_structure_86 rfl ?_
      refine r_callV1 dX8_structure_87 zm_X8_189 RS_o rfl (Nat.le_of_ble_eq_true rfl) (Nat.le_of_ble_eq_true rfl) (C_X8_fl (k := 1) h ht (eqx.rf (A := [])) hb (by decide)) (fun v S9 hv => ?_)
      obtain ⟨rfl, r2, rfl, hB⟩ := hv
      refine r_aload_n dX8_structure_90 (by first | rfl | assumption) ?_
      refine r8_get dX8_structure_91 zf_X8_142 rfl ?_
      rw [hB.2.1]
      refine r_if_eq_f (tgt := 98) dX8_structure_94 (by decide) (nI_ne0 (by decide) (by decide)) ?_
      refine r_return dX8_structure_97 rfl ⟨rfl, r2, rfl, hB.1.kp (by decide) (by decide), Or.inr ?_⟩
      have e1 : res = (gFl g 1, 2) := by
        rw [← hres]
        rcases hw with rfl | rfl
        · rw [if_pos rfl]
          unfold cElse
          have hk := hk rfl
          rw [if_neg (fun z => hk (Or.inl z)), if_neg (fun z => hk (Or.inr z)), hct, if_pos q1]
        · rw [if_neg (by decide)]
          unfold cEndif
          rw [if_neg (hk3 rfl), hct, if_pos q1]
      rw [e1]
      exact ⟨rfl, hB.dn h (by decide) (by decide)⟩
  refine r_iload_n dX8_structure_23 (by first | rfl | assumption) ?_
  refine r_bp (6) dX8_structure_24 rfl ?_
  rcases hw with rfl | rfl
  · refine r_icmp_ne_t (tgt := 34) dX8_structure_26 (by decide) (by decide) ?_
    refine r_iload_n dX8_structure_34 (by first | rfl | assumption) ?_
    refine r_ic (2) dX8_structure_35 rfl ?_
    refine r_icmp_eq_t (tgt := 44) dX8_structure_36 (by decide) (rfl) ?_
    exact l44
  · refine r_icmp_ne_t (tgt := 34) dX8_structure_26 (by decide) (by decide) ?_
    refine r_iload_n dX8_structure_34 (by first | rfl | assumption) ?_
    refine r_ic (2) dX8_structure_35 rfl ?_
    refine r_icmp_eq_f (tgt := 44) dX8_structure_36 (by decide) (by decide) ?_
    refine r_iload_n dX8_structure_39 (by first | rfl | assumption) ?_
    refine r_ic (3) dX8_structure_40 rfl ?_
    refine r_icmp_ne_f (tgt := 48) dX8_structure_41 (by decide) (rfl) ?_
    exact l44
end
