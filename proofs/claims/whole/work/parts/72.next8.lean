/-! THE REFERENCE: next, and what both are to each other between calls -/
def TX (r : zR) (xs : List Nat) : Prop := r.1 3 = nI xs.length ∧ xs.length ≤ 512 ∧ byB (r.2.1 166) xs
def OR (c : zD) (g : zG) (r : zR) : Prop := TX r c.2.2.1 ∧ r.1 11 = nI g.1.2.2.2.2 ∧ g.1.2.2.2.2 < 8 ∧ r.1 13 = nI g.1.2.2.2.1 ∧ (c.2.2.2.2.2.1.1 = true → r.1 15 = 0 ∧ REL c g r ∧ WF c g) ∧ (c.2.2.2.2.2.1.1 = false → r.1 15 = 1 ∧ g.2.1 = 0 ∧ (g.1.2.2.2.2 = 0 → g.1.2.2.2.1 = 0) ∧ (g.1.2.2.2.2 ≠ 0 → r.1 12 = nI g.1.2.2.2.1)) ∧ (c.2.2.2.2.2.1.2 = true → r.1 16 = 1 ∧ LN r g.2.2.2.2 ∧ g.2.2.2.2.length ≤ 1024) ∧ (c.2.2.2.2.2.1.2 = false → r.1 16 = 0)
section
variable {d : Nat} {S : zS} {r r' : zR} {c c1 : zD} {g g1 : zG} {out : Nat}
theorem TX.kp {xs : List Nat} (h : TX r xs) (k : kept r r') : TX r' xs := ⟨k.1.trans h.1, h.2.1, by rw [k.2.2.2.2.1]; exact h.2.2⟩
theorem stR_c2 {c2 : zD} {g2 : zG} {o : Nat} (hs : stR c g c2 g2 o) (hL : True) : c2.2.1 = c.2.1 := (stR_c hs).2.2.1
theorem rnR_c : ∀ (n : Nat) (c : zD) (g : zG), rnR n c g c1 g1 out → c1.2.1 = c.2.1 ∧ c1.2.2.1 = c.2.2.1
  | 0, _, _, h => by cases h
  | n + 1, c, g, h => by
    obtain ⟨c2, g2, o, hs, -, hn⟩ := h
    have e := stR_c hs
    rcases hn with ⟨-, rfl, -⟩ | ⟨-, hn⟩
    · exact ⟨e.2.2.1, e.2.2.2⟩
    · have := rnR_c n c2 g2 hn
      exact ⟨this.1.trans e.2.2.1, this.2.trans e.2.2.2⟩
theorem REL.cg {c2 : zD} (h : REL c g r) (hc : c2.2.1 = c.2.1) : REL c2 g r := by
  unfold REL FR cnt at *
  rw [hc]
  exact h
theorem WF.cg {c2 : zD} (h : WF c g) (hc : c2.2.1 = c.2.1) : WF c2 g := by
  unfold WF ptOk lim7 lmN pOk cnt at *
  rw [hc]
  exact h
/-- behind the reference's next -/
def n8P (S : zS) (r : zR) (c1 : zD) (g1 : zG) (out : Nat) (v : Option Value) (S1 : zS) : Prop := ∃ r', S1 = RS S r' ∧ r'.2.2 241 = r.2.2 241 ∧ ((out = 1 ∧ v = some (.int (nI g1.2.2.2.2.length)) ∧ r'.1 0 = 0 ∧ OR (cRp c1 (true, true)) g1 r') ∨ (out = 2 ∧ g1.1.2.2.2.2 ≠ 0 ∧ v = some (.int 0) ∧ r'.1 0 = 1 ∧ OR (cRp c1 (false, false)) (gSz g1 0) r') ∨ (out = 2 ∧ g1.1.2.2.2.2 = 0 ∧ v = some (.int (-1)) ∧ r'.1 0 = 0 ∧ OR (cRp c1 (false, false)) (gTo (gSz g1 0) 0) r'))
set_option maxRecDepth 10000 in
set_option maxHeartbeats 4000000 in
/-- the reading has ended -/
theorem nx8_end {r0 : zR} {xs : List Nat} {L : Nat → Option Value} (hT : TX r0 c1.2.2.1) (hk : r.1 3 = r0.1 3 ∧ r.2.1 166 = r0.2.1 166 ∧ r.2.2 241 = r0.2.2 241 ∧ r.1 0 = 0 ∧ r.1 16 = 0) (ho : out = 2) (hD : DN c1 g1 r ∨ (g1.1.2.2.2.2 = 0 ∧ r.1 11 = 0 ∧ r.1 19 = 0 ∧ r.1 14 = 0)) (l0 : L 0 = some (.ref 165)) : Ru (d + 3) mX8_next 73 L [] (RS S r) (z_en mX8_next (n8P S r0 c1 g1 out)) := by
  -- from the flags on
  have l108 : ∀ (r2 : zR) (L : Nat → Option Value), r2.1 3 = r0.1 3 ∧ r2.2.1 166 = r0.2.1 166 ∧ r2.2.2 241 = r0.2.2 241 ∧ r2.1 0 = 0 ∧ r2.1 16 = 0 → r2.1 11 = nI g1.1.2.2.2.2 → g1.1.2.2.2.2 < 8 → (g1.1.2.2.2.2 ≠ 0 → r2.1 12 = nI g1.1.2.2.2.1) → L 0 = some (.ref 165) → Ru (d + 3) mX8_next 108 L [] (RS S r2) (z_en mX8_next (n8P S r0 c1 g1 out)) := by
    intro r2 L hk2 h11 h8 h12 l0
    refine r_aload_n dX8_next_108 (by first | rfl | assumption) ?_
    refine r_ic (1) dX8_next_109 rfl ?_
    refine r8_put dX8_next_110 zf_X8_17 (Nat.le_of_ble_eq_true rfl) rfl (⟨rfl, rfl⟩) ?_
    refine r_aload_n dX8_next_113 (by first | rfl | assumption) ?_
    refine r_ic (0) dX8_next_114 rfl ?_
    refine r8_put dX8_next_115 zf_X8_139 (Nat.le_of_ble_eq_true rfl) rfl (⟨rfl, rfl⟩) ?_
    refine r_aload_n dX8_next_118 (by first | rfl | assumption) ?_
    refine r_aload_n dX8_next_119 (by first | rfl | assumption) ?_
    refine r8_get dX8_next_120 zf_X8_142 rfl ?_
    rw [show (rF (rF r2 15 1) 19 0).1 11 = nI g1.1.2.2.2.2 from h11]
    by_cases q : g1.1.2.2.2.2 = 0
    · refine r_if_ne_f (tgt := 130) dX8_next_123 (by decide) (by rw [q]; rfl) ?_
      refine r_ic (0) dX8_next_126 rfl ?_
      refine r_goto (tgt := 134) dX8_next_127 (by decide) ?_
      refine r8_put dX8_next_134 zf_X8_305 (Nat.le_of_ble_eq_true rfl) rfl (⟨rfl, rfl⟩) ?_
      refine r_aload_n dX8_next_137 (by first | rfl | assumption) ?_
      refine r8_get dX8_next_138 zf_X8_142 rfl ?_
      rw [show (rF (rF (rF r2 15 1) 19 0) 13 0).1 11 = nI g1.1.2.2.2.2 from h11]
      refine r_if_ne_f (tgt := 146) dX8_next_141 (by decide) (by rw [q]; rfl) ?_
      refine r_ic (-1) dX8_next_144 rfl ?_
      refine r_ireturn dX8_next_145 _ rfl rfl ⟨_, rfl, hk2.2.2.1, Or.inr (Or.inr ⟨ho, q, rfl, hk2.2.2.2.1, ?_⟩)⟩
      refine ⟨⟨hk2.1.trans hT.1, hT.2.1, by show byB (r2.2.1 166) _; rw [hk2.2.1]; exact hT.2.2⟩, h11, h8, rfl, fun z => (by cases z), fun _ => ⟨rfl, rfl, fun _ => rfl, fun z => absurd q z⟩, fun z => (by cases z), fun _ => hk2.2.2.2.2⟩
    · have hne := nI_ne0 (Nat.pos_of_ne_zero q) (show g1.1.2.2.2.2 < 2 ^ 31 by omega)
      refine r_if_ne_t (tgt := 130) dX8_next_123 (by decide) (hne) ?_
      refine r_aload_n dX8_next_130 (by first | rfl | assumption) ?_
      refine r8_get dX8_next_131 zf_X8_149 rfl ?_
      refine r8_put dX8_next_134 zf_X8_305 (Nat.le_of_ble_eq_true rfl) rfl (⟨rfl, rfl⟩) ?_
      refine r_aload_n dX8_next_137 (by first | rfl | assumption) ?_
      refine r8_get dX8_next_138 zf_X8_142 rfl ?_
      rw [show (rF (rF (rF r2 15 1) 19 0) 13 ((rF (rF r2 15 1) 19 0).1 12)).1 11 = nI g1.1.2.2.2.2 from h11]
      refine r_if_ne_t (tgt := 146) dX8_next_141 (by decide) (hne) ?_
      refine r_aload_n dX8_next_146 (by first | rfl | assumption) ?_
      refine r_ic (1) dX8_next_147 rfl ?_
      refine r8_put dX8_next_148 zf_X8_103 (Nat.le_of_ble_eq_true rfl) rfl (⟨rfl, rfl⟩) ?_
      refine r_ic (0) dX8_next_151 rfl ?_
      refine r_ireturn dX8_next_152 _ rfl rfl ⟨_, rfl, hk2.2.2.1, Or.inr (Or.inl ⟨ho, q, rfl, rfl, ?_⟩)⟩
      refine ⟨⟨hk2.1.trans hT.1, hT.2.1, by show byB (r2.2.1 166) _; rw [hk2.2.1]; exact hT.2.2⟩, h11, h8, h12 q, fun z => (by cases z), fun _ => ⟨rfl, rfl, fun z => absurd z q, fun _ => h12 q⟩, fun z => (by cases z), fun _ => hk2.2.2.2.2⟩
  refine r_aload_n dX8_next_73 (by first | rfl | assumption) ?_
  refine r8_get dX8_next_74 zf_X8_142 rfl ?_
  rcases hD with ⟨-, hT2, ⟨h1, h2, h3, h4⟩ | ⟨h1, h2, h3, ⟨kd, n, hf, -, hn⟩, -⟩⟩ | ⟨h1, h2, h3, h4⟩
  · rw [h1]
    refine r_if_ne_t (tgt := 108) dX8_next_77 (by decide) (nI_ne0 h2 (by omega)) ?_
    exact l108 r L hk h1 h3 (fun _ => h4) l0
  · have hn20 := hf.2.1
    refine r_if_ne_f (tgt := 108) dX8_next_77 (by decide) (h1) ?_
    refine r_aload_n dX8_next_80 (by first | rfl | assumption) ?_
    refine r8_get dX8_next_81 zf_X8_139 rfl ?_
    rw [hf.2.2]
    have l94 : Ru (d + 3) mX8_next 94 L [] (RS S r) (z_en mX8_next (n8P S r0 c1 g1 out)) := by
      refine r_aload_n dX8_next_94 (by first | rfl | assumption) ?_
      refine r_bp (6) dX8_next_95 rfl ?_
      refine r8_put dX8_next_97 zf_X8_142 (Nat.le_of_ble_eq_true rfl) rfl (⟨rfl, rfl⟩) ?_
      refine r_aload_n dX8_next_100 (by first | rfl | assumption) ?_
      refine r_aload_n dX8_next_101 (by first | rfl | assumption) ?_
      have hT3 : TP (rF r 11 6) c1.2.1 := hT2.mv (eqx.f (F := [11]) (A := []) (by decide)) (by decide) (by decide)
      refine r_callV0 dX8_next_102 zm_X8_311 RS_o rfl (Nat.le_of_ble_eq_true rfl) (Nat.le_of_ble_eq_true rfl) (C_X8_linesOfSource hT3) (fun v S9 hv => ?_)
      obtain ⟨rfl, rfl⟩ := hv
      refine r8_put dX8_next_105 zf_X8_149 (Nat.le_of_ble_eq_true rfl) rfl (⟨rfl, rfl⟩) ?_
      exact l108 _ L hk (by show (6 : Int32) = _; rw [h2]; rfl) (by omega) (fun _ => by show nI (lnz c1.2.1).length = _; rw [h3]; rfl) l0
    by_cases q : 0 < n
    · refine r_if_gt_t (tgt := 94) dX8_next_84 (by decide) (Int32.not_le.mp (nI_nle q (by omega))) ?_
      exact l94
    · have h14 := hn.resolve_left q
      refine r_if_gt_f (tgt := 94) dX8_next_84 (by decide) (by rw [show n = 0 by omega]; decide) ?_
      refine r_aload_n dX8_next_87 (by first | rfl | assumption) ?_
      refine r8_get dX8_next_88 zf_X8_280 rfl ?_
      rw [h14]
      refine r_if_eq_f (tgt := 108) dX8_next_91 (by decide) (by decide) ?_
      exact l94
  · refine r_if_ne_f (tgt := 108) dX8_next_77 (by decide) (h2) ?_
    refine r_aload_n dX8_next_80 (by first | rfl | assumption) ?_
    refine r8_get dX8_next_81 zf_X8_139 rfl ?_
    rw [h3]
    refine r_if_gt_f (tgt := 94) dX8_next_84 (by decide) (by decide) ?_
    refine r_aload_n dX8_next_87 (by first | rfl | assumption) ?_
    refine r8_get dX8_next_88 zf_X8_280 rfl ?_
    rw [h4]
    refine r_if_eq_t (tgt := 108) dX8_next_91 (by decide) (rfl) ?_
    exact l108 r L hk (by rw [h2, h1]; rfl) (by omega) (fun z => absurd h1 z) l0
set_option maxRecDepth 10000 in
set_option maxHeartbeats 4000000 in
theorem C_X8_next (h : OR c g r) (hrd : c.2.2.2.2.2.1.1 = true) (hn : rn (cRp c (true, false)) g c1 g1 out) (ho : out = 1 ∨ out = 2) : Rc (d + 9) mX8_next [.ref 165] (RS S r) (n8P S r c1 g1 out) := by
  obtain ⟨hTX, h11, h8, h13, hR, -, -, -⟩ := h
  obtain ⟨h15, hREL, hWF⟩ := hR hrd
  have hf0 := hWF.2.2.2.2.2.2.1
  have hb : r.1 11 = 0 := by rw [h11, hf0]; rfl
  have ec := rnR_c hn.choose _ _ hn.choose_spec
  have loop : ∀ (n : Nat) (c2 : zD) (g2 : zG) (r2 : zR) (L : Nat → Option Value), rnR n c2 g2 c1 g1 out → c2.2.1 = c.2.1 → REL2 c2 g2 r2 → WF c2 g2 → r2.1 11 = 0 → r2.1 3 = r.1 3 ∧ r2.2.1 166 = r.2.1 166 ∧ r2.2.2 241 = r.2.2 241 ∧ r2.1 0 = 0 ∧ r2.1 16 = 0 ∧ r2.1 15 = 0 → L 0 = some (.ref 165) → Ru (d + 9) mX8_next 38 L [] (RS S r2) (z_en mX8_next (n8P S r c1 g1 out)) := by
    intro n
    induction n using Nat.strongRecOn with
    | _ n ih =>
    intro c2 g2 r2 L hn2 hc2 h2 hw2 hb2 hk2 l0
    have hTX1 : TX r c1.2.2.1 := by rw [ec.2]; exact hTX
    have kk : ∀ (r3 : zR), kept r2 r3 → r3.1 3 = r.1 3 ∧ r3.2.1 166 = r.2.1 166 ∧ r3.2.2 241 = r.2.2 241 ∧ r3.1 0 = 0 ∧ r3.1 16 = 0 ∧ r3.1 15 = 0 := fun r3 k => ⟨k.1.trans hk2.1, k.2.2.2.2.1.trans hk2.2.1, k.2.2.2.2.2.trans hk2.2.2.1, k.2.2.2.1.trans hk2.2.2.2.1, k.2.2.1.trans hk2.2.2.2.2.1, k.2.1.trans hk2.2.2.2.2.2⟩
    refine r_aload_n dX8_next_38 (by first | rfl | assumption) ?_
    refine r_callV0 dX8_next_39 zm_X8_314 RS_o rfl (Nat.le_of_ble_eq_true rfl) (Nat.le_of_ble_eq_true rfl) (C_X8_nextLine (d := d + 6) h2 hw2 hb2 hn2) (fun v S9 hv => ?_)
    obtain ⟨r3, rfl, hk3, hv⟩ := hv
    rcases hv with ⟨rfl, g3, hw3, hp3, ⟨m, hm, hn3⟩, hR3, h73, h83, hb3⟩ | ⟨rfl, ho2, hD⟩
    · refine r_if_eq_f (tgt := 73) dX8_next_42 (by decide) (show ¬ (1 : Int32) = 0 by decide) ?_
      cases m with
      | zero => cases hn3
      | succ m =>
      obtain ⟨c4, g4, o, hst, hrb, hn4⟩ := hn3
      have hln : lnR c2 g3 c4 g4 o := by
        rcases hst with z | z
        · exact z.2
        · exact absurd hp3 z.1
      have ec4 := stR_c hst
      refine r_aload_n dX8_next_45 (by first | rfl | assumption) ?_
      refine r_callV0 dX8_next_46 zm_X8_318 RS_o rfl (Nat.le_of_ble_eq_true rfl) (Nat.le_of_ble_eq_true rfl) (C_X8_readLine hR3 hw3 hp3 h73 h83 hb3 hln) (fun v S9 hv => ?_)
      obtain ⟨r4, rfl, hk4, hv⟩ := hv
      have hkk := kk r4 (hk3.tr hk4)
      rcases hv with ⟨rfl, rfl, hb4, hR4, hL4, hl4, how⟩ | ⟨rfl, rfl, hb4, hR4⟩ | ⟨rfl, rfl, hD4⟩
      · rcases hn4 with ⟨-, hc1, hg1, hout⟩ | ⟨z, -⟩
        · have hw4 := (stR_wf hw3 hst hrb (by decide)).1
          refine r_if_ne_t (tgt := 55) dX8_next_49 (by decide) (show ¬ (1 : Int32) = 0 by decide) ?_
          refine r_aload_n dX8_next_55 (by first | rfl | assumption) ?_
          refine r_ic (1) dX8_next_56 rfl ?_
          refine r8_put dX8_next_57 zf_X8_308 (Nat.le_of_ble_eq_true rfl) rfl (⟨rfl, rfl⟩) ?_
          refine r_aload_n dX8_next_60 (by first | rfl | assumption) ?_
          refine r_aload_n dX8_next_61 (by first | rfl | assumption) ?_
          have hfk : FK (kdG g4) (rF r4 16 1) g4.2.1 := hR4.fk.mv (eqx.f (F := [16]) (A := []) (by decide)) (by decide) (by decide)
          refine r_callV0 dX8_next_62 zm_X8_145 RS_o rfl (Nat.le_of_ble_eq_true rfl) (Nat.le_of_ble_eq_true rfl) (C_X8_ownLine hfk) (fun v S9 hv => ?_)
          obtain ⟨rfl, rfl⟩ := hv
          rw [show own (kdG g4) (rF r4 16 1) g4.2.1 = nI g4.1.2.2.2.1 from how]
          refine r8_put dX8_next_65 zf_X8_305 (Nat.le_of_ble_eq_true rfl) rfl (⟨rfl, rfl⟩) ?_
          refine r_aload_n dX8_next_68 (by first | rfl | assumption) ?_
          refine r8_get dX8_next_69 zf_X8_199 rfl ?_
          rw [show (rF (rF r4 16 1) 13 (nI g4.1.2.2.2.1)).1 18 = nI g4.2.2.2.2.length from hL4.1]
          have hx : eqx [13, 16] [] r4 (rF (rF r4 16 1) 13 (nI g4.1.2.2.2.1)) := (eqx.f (by decide)).tr (eqx.f (by decide))
          have hR5 : REL c4 g4 (rF (rF r4 16 1) 13 (nI g4.1.2.2.2.1)) := hR4.mv hx (by decide) (fun x hx => by cases hx)
          refine r_ireturn dX8_next_72 _ rfl rfl ⟨_, rfl, hkk.2.2.1, Or.inl ⟨hout, by rw [hg1], hkk.2.2.2.1, ?_⟩⟩
          rw [hg1]
          refine ⟨⟨hkk.1.trans hTX1.1, hTX1.2.1, by show byB (r4.2.1 166) _; rw [hkk.2.1]; exact hTX1.2.2⟩, by show r4.1 11 = _; rw [hb4, hw4.2.2.2.2.2.2.1]; rfl, by rw [hw4.2.2.2.2.2.2.1]; decide, rfl, fun _ => ⟨hkk.2.2.2.2.2, ?_, ?_⟩, fun z => (by cases z), fun _ => ⟨rfl, hL4.mv hx (by decide) (by decide), hl4⟩, fun z => (by cases z)⟩
          · rw [hc1]; exact hR5.cg rfl
          · rw [hc1]; exact hw4.cg rfl
        · cases z
      · rcases hn4 with ⟨z, -⟩ | ⟨-, hn4⟩
        · exact absurd rfl z
        · refine r_if_ne_f (tgt := 55) dX8_next_49 (by decide) (rfl) ?_
          refine r_goto (tgt := 38) dX8_next_52 (by decide) ?_
          exact ih m (by omega) c4 g4 r4 L hn4 (ec4.2.2.1.trans hc2) hR4 (stR_wf hw3 hst hrb (by decide)).1 hb4 hkk l0
      · rcases hn4 with ⟨-, hc1, hg1, hout⟩ | ⟨z, -⟩
        · rw [← hc1, ← hg1] at hD4
          refine r_if_ne_f (tgt := 55) dX8_next_49 (by decide) (rfl) ?_
          refine r_goto (tgt := 38) dX8_next_52 (by decide) ?_
          refine r_aload_n dX8_next_38 (by first | rfl | assumption) ?_
          refine r_callV0 dX8_next_39 zm_X8_314 RS_o rfl (Nat.le_of_ble_eq_true rfl) (Nat.le_of_ble_eq_true rfl) (C_X8_nlDN (d := d + 6) hD4) (fun v S9 hv => ?_)
          obtain ⟨rfl, rfl⟩ := hv
          refine r_if_eq_t (tgt := 73) dX8_next_42 (by decide) (rfl) ?_
          exact nx8_end (d := d + 6) (xs := []) hTX1 ⟨hkk.1, hkk.2.1, hkk.2.2.1, hkk.2.2.2.1, hkk.2.2.2.2.1⟩ hout (Or.inl hD4) l0
        · cases z
    · have hkk := kk r3 hk3
      refine r_if_eq_t (tgt := 73) dX8_next_42 (by decide) (rfl) ?_
      exact nx8_end (d := d + 6) (xs := []) hTX1 ⟨hkk.1, hkk.2.1, hkk.2.2.1, hkk.2.2.2.1, hkk.2.2.2.2.1⟩ ho2 hD l0
  obtain ⟨n, hn⟩ := hn
  refine Rc.of ?_
  refine r_aload_n dX8_next_0 (by first | rfl | assumption) ?_
  refine r_ic (0) dX8_next_1 rfl ?_
  refine r8_put dX8_next_2 zf_X8_103 (Nat.le_of_ble_eq_true rfl) rfl (⟨rfl, rfl⟩) ?_
  refine r_aload_n dX8_next_5 (by first | rfl | assumption) ?_
  refine r_ic (0) dX8_next_6 rfl ?_
  refine r8_put dX8_next_7 zf_X8_308 (Nat.le_of_ble_eq_true rfl) rfl (⟨rfl, rfl⟩) ?_
  refine r_aload_n dX8_next_10 (by first | rfl | assumption) ?_
  refine r8_get dX8_next_11 zf_X8_17 rfl ?_
  rw [show (rF (rF r 0 0) 16 0).1 15 = 0 from h15]
  refine r_if_eq_t (tgt := 38) dX8_next_14 (by decide) (rfl) ?_
  have hx : eqx [0, 16] [] r (rF (rF r 0 0) 16 0) := (eqx.f (by decide)).tr (eqx.f (by decide))
  exact loop n (cRp c (true, false)) g _ _ hn rfl (Or.inl ((hREL.mv hx (by decide) (fun x hx => by cases hx)).cg rfl)) (hWF.cg rfl) hb ⟨rfl, rfl, rfl, rfl, rfl, h15⟩ rfl
end
