/-! THE REFERENCE: what a line may be where it stands -/
section
variable {d : Nat} {S : zS} {r : zR} {c : zD} {g : zG}
theorem REL.stop (h : REL c g r) {j : Nat} (hj : iL g = some j) : r.2.1 170 j = nI (lo c.2.1 (lim7 c g)) ∧ lim7 c g < cnt c ∧ j < 20 := by
  have hl := inL_lt _ _ hj
  have h20 := h.2.2.2.2.2.2.2.1
  have e : lim7 c g = (g.2.2.1 j).2.1.2.1 := by unfold lim7; rw [hj]
  rw [e]
  rcases h.2.2.2.2.2.2.2.2.1 j hl.1 with ⟨h1, -⟩ | ⟨h1, h2, h3, h4, h5, h6, h7, h8, -⟩ | ⟨h1, h2, h3, h4, -⟩
  · have := hl.2
    rcases h1 with h1 | h1 <;> rw [h1] at this <;> cases this
  · exact ⟨h3, h8, by omega⟩
  · exact ⟨h3, h4, by omega⟩
theorem REL.lim (h : REL c g r) : lim7 c g ≤ (lnz c.2.1).length := by
  cases hj : iL g with
  | none => unfold lim7; rw [hj]; exact Nat.le_refl _
  | some j => exact Nat.le_of_lt (h.stop hj).2.1
theorem REL.ps (h : REL c g r) : g.1.1 ≤ 512 := by
  obtain ⟨a, h1, h2⟩ := h.2.1
  have h3 := cnt_len (c := c)
  have h4 := h2.1
  have h5 := h.1.2.1
  unfold cnt at h3
  omega
/-- a search for an end -/
theorem C_X8_fz {bg en : Nat} {oe : Bool} (h : REL c g r) (hb : bg = 1 ∨ bg = 4 ∨ bg = 6) (hen : en = endW bg) : Rc (d + 4) mX8_findEnd [.ref 165, .int (r.1 5), .int (nI (g.1.1 + 1)), .int (nI (lo c.2.1 (lim7 c g))), .int (nI bg), .int (nI en), .int (bI oe)] (RS S r) (fun v S1 => match fz c g bg oe with
    | none => S1 = RS S r ∧ v = some (.int 0)
    | some o => S1 = RS S (rFd r (nI (lo c.2.1 o)) (nI (o + 1)) (nI ((wsO c.2.1).getD o 0)) (nI (lo c.2.1 (o + 1)))) ∧ v = some (.int 1)) := by
  obtain ⟨a, h1, h2⟩ := h.2.1
  rw [h1]
  have hp := h.ps
  refine (C_X8_findEnd (n := g.1.1 + 1) h.1 h2 h.lim (by omega) hb hen).mono ?_
  intro v S1 hv
  have e : fz c g bg oe = fnz (wsO c.2.1) g.1.1 (lim7 c g) bg oe := rfl
  rw [e]
  cases hq : fnz (wsO c.2.1) g.1.1 (lim7 c g) bg oe with
  | none => rw [hq] at hv; exact hv
  | some o =>
    rw [hq] at hv
    have := fz_lt (c := c) (g := g) (bg := bg) (oe := oe) (o := o) hq
    have hv : S1 = RS S (rFd r (nI (lo c.2.1 o)) (nI (g.1.1 + 1 + (o - g.1.1))) (nI ((wsO c.2.1).getD o 0)) (nI (lo c.2.1 (o + 1)))) ∧ v = some (.int 1) := hv
    rw [show g.1.1 + 1 + (o - g.1.1) = o + 1 by omega] at hv
    exact hv
theorem rFd_x {a b e f : Int32} : eqx [46, 47, 48, 49] [] r (rFd r a b e f) := (((eqx.f (by decide)).tr (eqx.f (by decide))).tr (eqx.f (by decide))).tr (eqx.f (by decide))
/-- what was found wrong -/
def BD (g : zG) (k : Nat) (A : List Nat) (r r' : zR) : Prop := eqx [11, 12, 46, 47, 48, 49] A r r' ∧ r'.1 11 = nI k ∧ r'.1 12 = nI g.1.2.2.2.1
def NX (r r' : zR) : Prop := eqx [46, 47, 48, 49] [] r r'
theorem C_X8_fl {k : Nat} {r1 : zR} {A : List Nat} (h : REL c g r) (ht : iL g = none → g.1.2.2.2.1 = g.1.1) (hx : eqx [46, 47, 48, 49] A r r1) (hb : r.1 11 = 0) (hA : 169 ∉ A ∧ 175 ∉ A) : Rc (d + 1) mX8_fail [.ref 165, .int (nI k)] (RS S r1) (fun v S1 => v = none ∧ ∃ r', S1 = RS S r' ∧ BD g k A r r') := by
  refine (C_X8_fail (k := nI k) (h.fk.mv hx (by decide) hA.1)).mono ?_
  rintro v S1 ⟨rfl, rfl⟩
  rw [if_pos ((hx.1 11 (by decide)).trans hb)]
  refine ⟨rfl, _, rfl, ((hx.mono (by decide) (fun _ z => z)).tr (eqx.f (by decide))).tr (eqx.f (by decide)), rfl, ?_⟩
  show own (kdG g) r1 g.2.1 = _
  rw [← h.ow ht]
  unfold own
  rw [hx.1 6 (by decide), (hx.2 175 hA.2).1]
theorem C_X8_fl2 {k j : Nat} {r1 : zR} {A : List Nat} (h : REL c g r) (hB : BD g j A r r1) (hj : 0 < j ∧ j < 8) (hA : 169 ∉ A) : Rc (d + 1) mX8_fail [.ref 165, .int (nI k)] (RS S r1) (fun v S1 => v = none ∧ S1 = RS S r1) := by
  refine (C_X8_fail (k := nI k) (h.fk.mv hB.1 (by decide) hA)).mono ?_
  rintro v S1 ⟨rfl, rfl⟩
  rw [if_neg (by rw [hB.2.1]; exact nI_ne0 hj.1 (by omega))]
  exact ⟨rfl, rfl⟩
/-- whether the innermost is a condition -/
def opn (g : zG) : Bool := decide (0 < g.2.1) && !hasL (kdA (kdG g) g.2.1)
theorem nst_op {r1 : zR} {A : List Nat} {L : Nat → Option Value} {Q : Nat → List Value → zS → Prop} (h : REL c g r) (hx : eqx [11, 12, 46, 47, 48, 49] A r r1) (hA : 169 ∉ A) (l0 : L 0 = some (.ref 165)) (l2 : z_c1 (L 2)) (K : Ru d mX8_nesting 59 (z_s1 L 3 (.int (bI (opn g)))) [] (RS S r1) Q) : Ru d mX8_nesting 31 L [] (RS S r1) Q := by
  have h20 := h.2.2.2.2.2.2.2.1
  have e19 : r1.1 19 = nI g.2.1 := (hx.1 19 (by decide)).trans h.2.2.2.2.2.2.1
  have hk := (h.fk.mv hx (by decide) hA)
  refine r_aload_n dX8_nesting_31 (by first | rfl | assumption) ?_
  refine r8_get dX8_nesting_32 zf_X8_139 rfl ?_
  rw [e19]
  by_cases q : g.2.1 = 0
  · refine r_if_le_t (tgt := 57) dX8_nesting_35 (by decide) (by rw [q]; decide) ?_
    refine r_ic (0) dX8_nesting_57 rfl ?_
    refine r_istore_n dX8_nesting_58 (by decide) (by first | assumption | exact z_c1_i (by first | rfl | assumption) | exact z_c1_r (by first | rfl | assumption) | exact z_c1_n (by first | rfl | assumption) | exact z_c1_c (by first | rfl | assumption) | exact z_c1_0 (by first | rfl | assumption)) ?_
    rw [show opn g = false by unfold opn; rw [q]; rfl] at K
    exact K
  · obtain ⟨n, hn⟩ : ∃ n, g.2.1 = n + 1 := ⟨g.2.1 - 1, by omega⟩
    have e : opn g = !hasL (kdG g n) := by unfold opn; rw [hn]; rfl
    refine r_if_le_f (tgt := 57) dX8_nesting_35 (by decide) (nI_nle (by omega) (by omega)) ?_
    refine r_aload_n dX8_nesting_38 (by first | rfl | assumption) ?_
    refine r8_get dX8_nesting_39 zf_X8_24 rfl ?_
    refine r_aload_n dX8_nesting_42 (by first | rfl | assumption) ?_
    refine r8_get dX8_nesting_43 zf_X8_139 rfl ?_
    rw [e19, hn]
    refine r_ic (1) dX8_nesting_46 rfl ?_
    refine r_isub dX8_nesting_47 ?_
    rw [nI_p1]
    refine r8_iald dX8_nesting_48 (by decide) (rfl) (by first | assumption | exact (show _ < 65536 by omega) | exact (show _ < 1100 by omega) | exact (show _ < 24 by omega) | exact (show _ < 2100 by omega) | exact (show _ < 6600 by omega) | exact (show _ < 1110 by omega)) ?_
    refine r_ic (1) dX8_nesting_49 rfl ?_
    have hf := fk_1 (hk.1 n (by omega))
    by_cases q2 : r1.2.1 169 n = 1
    · refine r_icmp_ne_f (tgt := 57) dX8_nesting_50 (by decide) (q2) ?_
      refine r_ic (1) dX8_nesting_53 rfl ?_
      refine r_goto (tgt := 58) dX8_nesting_54 (by decide) ?_
      refine r_istore_n dX8_nesting_58 (by decide) (by first | assumption | exact z_c1_i (by first | rfl | assumption) | exact z_c1_r (by first | rfl | assumption) | exact z_c1_n (by first | rfl | assumption) | exact z_c1_c (by first | rfl | assumption) | exact z_c1_0 (by first | rfl | assumption)) ?_
      rw [e, hf.mp q2] at K
      exact K
    · refine r_icmp_ne_t (tgt := 57) dX8_nesting_50 (by decide) (q2) ?_
      refine r_ic (0) dX8_nesting_57 rfl ?_
      refine r_istore_n dX8_nesting_58 (by decide) (by first | assumption | exact z_c1_i (by first | rfl | assumption) | exact z_c1_r (by first | rfl | assumption) | exact z_c1_n (by first | rfl | assumption) | exact z_c1_c (by first | rfl | assumption) | exact z_c1_0 (by first | rfl | assumption)) ?_
      have : hasL (kdG g n) = true := Bool.not_eq_false _ |>.mp (fun z => q2 (hf.mpr z))
      rw [e, this] at K
      exact K
/-- behind nesting -/
def nsP (S : zS) (g : zG) (A : List Nat) (r : zR) (N : Prop) (P : zR → Prop) (v : Option Value) (S1 : zS) : Prop := v = none ∧ ∃ r', S1 = RS S r' ∧ ((N ∧ BD g 6 A r r') ∨ (¬ N ∧ eqx [46, 47, 48, 49] A r r' ∧ P r'))
set_option maxRecDepth 10000 in
set_option maxHeartbeats 1000000 in
theorem C_X8_nst14 {w : Nat} {x : Int32} (h : REL c g r) (ht : iL g = none → g.1.2.2.2.1 = g.1.1) (hb : r.1 11 = 0) (hw : w = 1 ∨ w = 4) : Rc (d + 5) mX8_nesting [.ref 165, .int (nI w), .int x] (RS S r) (nsP S g [] r (g.2.1 = 20 ∨ ((fz c g w false).isNone && (iL g).isSome) = true) (fun _ => True)) := by
  have h20 := h.2.2.2.2.2.2.2.1
  have e19 := h.2.2.2.2.2.2.1
  generalize hN : (g.2.1 = 20 ∨ ((fz c g w false).isNone && (iL g).isSome) = true) = N
  refine Rc.of ?_
  have d1 : w ≠ 2 ∧ w ≠ 3 ∧ w ≠ 5 ∧ w ≠ 7 ∧ w ≠ 6 ∧ w ≠ 8 ∧ w < 8 := by rcases hw with rfl | rfl <;> decide
  have dn : ∀ k, k < 9 → w ≠ k → ¬ nI w = nI k := fun k hk hne z => hne ((nI_eq (by omega) (by omega)).mp z)
  -- behind the search
  have l188 : ∀ (r1 : zR) (L : Nat → Option Value), (N ∧ BD g 6 [] r r1) ∨ (¬ N ∧ eqx [46, 47, 48, 49] [] r r1) → L 1 = some (.int (nI w)) → Ru (d + 5) mX8_nesting 188 L [] (RS S r1) (z_en mX8_nesting (nsP S g [] r N (fun _ => True))) := by
    intro r1 L hr l1
    refine r_iload_n dX8_nesting_188 (by first | rfl | assumption) ?_
    refine r_ic (2) dX8_nesting_189 rfl ?_
    refine r_icmp_ne_t (tgt := 238) dX8_nesting_190 (by decide) (dn 2 (by decide) d1.1) ?_
    refine r_iload_n dX8_nesting_238 (by first | rfl | assumption) ?_
    refine r_bp (8) dX8_nesting_239 rfl ?_
    refine r_icmp_ne_t (tgt := 278) dX8_nesting_241 (by decide) (dn 8 (by decide) d1.2.2.2.2.2.1) ?_
    refine r_return dX8_nesting_278 rfl ⟨rfl, r1, rfl, hr.imp id (fun z => ⟨z.1, z.2, trivial⟩)⟩
  -- from the line's end on
  have l31 : ∀ (r1 : zR) (L : Nat → Option Value), (g.2.1 = 20 ∧ BD g 6 [] r r1) ∨ (¬ g.2.1 = 20 ∧ r1 = r) → L 0 = some (.ref 165) → L 1 = some (.int (nI w)) → z_c1 (L 2) → Ru (d + 5) mX8_nesting 31 L [] (RS S r1) (z_en mX8_nesting (nsP S g [] r N (fun _ => True))) := by
    intro r1 L hr l0 l1 l2
    have hx1 : eqx [11, 12, 46, 47, 48, 49] [] r r1 := by
      rcases hr with z | z
      · exact z.2.1
      · rw [z.2]; exact eqx.rf
    have hR1 : REL c g r1 := h.mv hx1 (by decide) (fun x hx => by cases hx)
    refine nst_op h hx1 (by decide) l0 l2 ?_
    refine r_iload_n dX8_nesting_59 (by first | rfl | assumption) ?_
    refine r_ic (2) dX8_nesting_60 rfl ?_
    refine r_icmp_ne_t (tgt := 82) dX8_nesting_61 (by decide) (dn 2 (by decide) d1.1) ?_
    refine r_iload_n dX8_nesting_82 (by first | rfl | assumption) ?_
    refine r_ic (3) dX8_nesting_83 rfl ?_
    refine r_icmp_ne_t (tgt := 91) dX8_nesting_84 (by decide) (dn 3 (by decide) d1.2.1) ?_
    refine r_iload_n dX8_nesting_91 (by first | rfl | assumption) ?_
    refine r_ic (5) dX8_nesting_92 rfl ?_
    refine r_icmp_eq_f (tgt := 102) dX8_nesting_93 (by decide) (dn 5 (by decide) d1.2.2.1) ?_
    refine r_iload_n dX8_nesting_96 (by first | rfl | assumption) ?_
    refine r_bp (7) dX8_nesting_97 rfl ?_
    refine r_icmp_ne_t (tgt := 108) dX8_nesting_99 (by decide) (dn 7 (by decide) d1.2.2.2.1) ?_
    refine r_aload_n dX8_nesting_108 (by first | rfl | assumption) ?_
    refine r_callV0 dX8_nesting_109 zm_X8_183 RS_o rfl (Nat.le_of_ble_eq_true rfl) (Nat.le_of_ble_eq_true rfl) (C_X8_reader hR1.fk) (fun v S9 hv => ?_)
    obtain ⟨rfl, rfl⟩ := hv
    refine r_istore dX8_nesting_112 (by decide) (by first | assumption | exact z_c1_i (by first | rfl | assumption) | exact z_c1_r (by first | rfl | assumption) | exact z_c1_n (by first | rfl | assumption) | exact z_c1_c (by first | rfl | assumption) | exact z_c1_0 (by first | rfl | assumption)) ?_
    refine r_iload_n dX8_nesting_114 (by first | rfl | assumption) ?_
    refine r_bp (6) dX8_nesting_115 rfl ?_
    refine r_icmp_ne_t (tgt := 131) dX8_nesting_117 (by decide) (dn 6 (by decide) d1.2.2.2.2.1) ?_
    have l141 : ∀ (L : Nat → Option Value), L 0 = some (.ref 165) → L 1 = some (.int (nI w)) → L 4 = some (.int (oI (iL g))) → Ru (d + 5) mX8_nesting 141 L [] (RS S r1) (z_en mX8_nesting (nsP S g [] r N (fun _ => True))) := by
      intro L l0 l1 l4
      cases hj : iL g with
      | none =>
        rw [hj] at l4
        refine r_iload dX8_nesting_141 (by first | rfl | assumption) ?_
        refine r_if_lt_t (tgt := 188) dX8_nesting_143 (by decide) (show (-1 : Int32) < 0 by decide) ?_
        refine l188 r1 L ?_ l1
        rw [← hN, hj]
        rcases hr with z | z
        · exact Or.inl ⟨Or.inl z.1, z.2⟩
        · refine Or.inr ⟨fun q => q.elim z.1 (fun q => ?_), by rw [z.2]; exact eqx.rf⟩
          rw [Bool.and_eq_true] at q
          cases q.2
      | some j =>
        rw [hj] at l4
        have hst := hR1.stop hj
        have l4' : L 4 = some (.int (nI j)) := l4
        refine r_iload dX8_nesting_141 (by first | rfl | assumption) ?_
        refine r_if_lt_f (tgt := 188) dX8_nesting_143 (by decide) (fun z => absurd z (Int32.not_lt.mpr (show nI 0 ≤ nI j from nI_le (Nat.zero_le _) (by omega)))) ?_
        refine r_aload_n dX8_nesting_146 (by first | rfl | assumption) ?_
        refine r_aload_n dX8_nesting_147 (by first | rfl | assumption) ?_
        refine r8_get dX8_nesting_148 zf_X8_186 rfl ?_
        refine r_aload_n dX8_nesting_151 (by first | rfl | assumption) ?_
        refine r8_get dX8_nesting_152 zf_X8_136 rfl ?_
        rw [hR1.2.2.1]
        refine r_ic (1) dX8_nesting_155 rfl ?_
        refine r_iadd dX8_nesting_156 ?_
        rw [nI_1]
        refine r_aload_n dX8_nesting_157 (by first | rfl | assumption) ?_
        refine r8_get dX8_nesting_158 zf_X8_28 rfl ?_
        refine r_iload dX8_nesting_161 (by first | rfl | assumption) ?_
        refine r8_iald dX8_nesting_163 (by decide) (rfl) (by first | assumption | exact (show _ < 65536 by omega) | exact (show _ < 1100 by omega) | exact (show _ < 24 by omega) | exact (show _ < 2100 by omega) | exact (show _ < 6600 by omega) | exact (show _ < 1110 by omega)) ?_
        rw [hst.1]
        have go : ∀ en : Nat, en = endW w → Ru (d + 5) mX8_nesting 175 L [.int (nI en), .int (nI w), .int (nI (lo c.2.1 (lim7 c g))), .int (nI (g.1.1 + 1)), .int (r1.1 5), .ref 165] (RS S r1) (z_en mX8_nesting (nsP S g [] r N (fun _ => True))) := by
          intro en hen
          refine r_ic (0) dX8_nesting_175 rfl ?_
          refine r_callV6 dX8_nesting_176 zm_X8_251 RS_o rfl (Nat.le_of_ble_eq_true rfl) (Nat.le_of_ble_eq_true rfl) (C_X8_fz (oe := false) hR1 (hw.imp id Or.inl) hen) (fun v S9 hv => ?_)
          cases hf : fz c g w false with
          | some o =>
            rw [hf] at hv
            obtain ⟨rfl, rfl⟩ := hv
            refine r_if_ne_t (tgt := 188) dX8_nesting_179 (by decide) (show ¬ (1 : Int32) = 0 by decide) ?_
            refine l188 _ L ?_ l1
            rw [← hN, hf]
            rcases hr with z | z
            · refine Or.inl ⟨Or.inl z.1, z.2.1.tr (rFd_x.mono (by decide) (fun _ z => z)), ?_, ?_⟩
              · exact z.2.2.1
              · exact z.2.2.2
            · refine Or.inr ⟨fun q => q.elim z.1 (fun q => by cases q), ?_⟩
              rw [z.2]
              exact rFd_x
          | none =>
            rw [hf] at hv
            obtain ⟨rfl, rfl⟩ := hv
            have hN9 : (g.2.1 = 20 ∨ ((none : Option Nat).isNone && (some j).isSome) = true) := Or.inr rfl
            refine r_if_ne_f (tgt := 188) dX8_nesting_179 (by decide) (rfl) ?_
            refine r_aload_n dX8_nesting_182 (by first | rfl | assumption) ?_
            refine r_bp (6) dX8_nesting_183 rfl ?_
            rcases hr with z | z
            · refine r_callV1 dX8_nesting_185 zm_X8_189 RS_o rfl (Nat.le_of_ble_eq_true rfl) (Nat.le_of_ble_eq_true rfl) (C_X8_fl2 (k := 6) h z.2 (by decide) (by decide)) (fun v S9 hv => ?_)
              obtain ⟨rfl, rfl⟩ := hv
              refine l188 r1 L ?_ l1
              rw [← hN, hf, hj]
              exact Or.inl ⟨hN9, z.2⟩
            · rw [z.2]
              refine r_callV1 dX8_nesting_185 zm_X8_189 RS_o rfl (Nat.le_of_ble_eq_true rfl) (Nat.le_of_ble_eq_true rfl) (C_X8_fl (k := 6) h ht (eqx.rf (A := [])) hb (by decide)) (fun v S9 hv => ?_)
              obtain ⟨rfl, r2, rfl, hB⟩ := hv
              refine l188 r2 L ?_ l1
              rw [← hN, hf, hj]
              exact Or.inl ⟨hN9, hB⟩
        refine r_iload_n dX8_nesting_164 (by first | rfl | assumption) ?_
        refine r_iload_n dX8_nesting_165 (by first | rfl | assumption) ?_
        refine r_ic (1) dX8_nesting_166 rfl ?_
        rcases hw with rfl | rfl
        · refine r_icmp_ne_f (tgt := 174) dX8_nesting_167 (by decide) (rfl) ?_
          refine r_ic (3) dX8_nesting_170 rfl ?_
          refine r_goto (tgt := 175) dX8_nesting_171 (by decide) ?_
          exact go 3 rfl
        · refine r_icmp_ne_t (tgt := 174) dX8_nesting_167 (by decide) (by decide) ?_
          refine r_ic (5) dX8_nesting_174 rfl ?_
          exact go 5 rfl
    refine r_iload_n dX8_nesting_131 (by first | rfl | assumption) ?_
    refine r_ic (1) dX8_nesting_132 rfl ?_
    rcases hw with rfl | rfl
    · refine r_icmp_eq_t (tgt := 141) dX8_nesting_133 (by decide) (rfl) ?_
      exact l141 _ l0 l1 rfl
    · refine r_icmp_eq_f (tgt := 141) dX8_nesting_133 (by decide) (by decide) ?_
      refine r_iload_n dX8_nesting_136 (by first | rfl | assumption) ?_
      refine r_ic (4) dX8_nesting_137 rfl ?_
      refine r_icmp_ne_f (tgt := 188) dX8_nesting_138 (by decide) (rfl) ?_
      exact l141 _ l0 l1 rfl
  have l16 : Ru (d + 5) mX8_nesting 16 (z_lf (lv_args 0 [.ref 165, .int (nI w), .int x])) [] (RS S r) (z_en mX8_nesting (nsP S g [] r N (fun _ => True))) := by
    refine r_aload_n dX8_nesting_16 (by first | rfl | assumption) ?_
    refine r8_get dX8_nesting_17 zf_X8_139 rfl ?_
    refine r_bp (20) dX8_nesting_20 rfl ?_
    rw [e19]
    by_cases q : g.2.1 = 20
    · refine r_icmp_ne_f (tgt := 31) dX8_nesting_22 (by decide) (by rw [q]; rfl) ?_
      refine r_aload_n dX8_nesting_25 (by first | rfl | assumption) ?_
      refine r_bp (6) dX8_nesting_26 rfl ?_
      refine r_callV1 dX8_nesting_28 zm_X8_189 RS_o rfl (Nat.le_of_ble_eq_true rfl) (Nat.le_of_ble_eq_true rfl) (C_X8_fl (k := 6) h ht (eqx.rf (A := [])) hb (by decide)) (fun v S9 hv => ?_)
      obtain ⟨rfl, r2, rfl, hB⟩ := hv
      exact l31 r2 _ (Or.inl ⟨q, hB⟩) rfl rfl (z_c1_i rfl)
    · refine r_icmp_ne_t (tgt := 31) dX8_nesting_22 (by decide) (fun z => q ((nI_eq (b := 20) (by omega) (by decide)).mp z)) ?_
      exact l31 r _ (Or.inr ⟨q, rfl⟩) rfl rfl (z_c1_i rfl)
  refine r_iload_n dX8_nesting_0 (by first | rfl | assumption) ?_
  refine r_ic (1) dX8_nesting_1 rfl ?_
  rcases hw with rfl | rfl
  · refine r_icmp_eq_t (tgt := 16) dX8_nesting_2 (by decide) (rfl) ?_
    exact l16
  · refine r_icmp_eq_f (tgt := 16) dX8_nesting_2 (by decide) (by decide) ?_
    refine r_iload_n dX8_nesting_5 (by first | rfl | assumption) ?_
    refine r_ic (4) dX8_nesting_6 rfl ?_
    refine r_icmp_eq_t (tgt := 16) dX8_nesting_7 (by decide) (rfl) ?_
    exact l16
end
