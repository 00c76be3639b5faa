section
variable {d : Nat} {S : zS} {r : zR} {c c1 : zD} {g g1 : zG} {out : Nat}
theorem rlP.cg {c2 : zD} {v : Option Value} {S1 : zS} (h : rlP S r c1 g1 out v S1) (hc : c2.2.1 = c1.2.1) : rlP S r c2 g1 out v S1 := by
  unfold rlP REL2 RELX REL FR DN cnt at *
  rw [hc]
  exact h
set_option maxRecDepth 10000 in
set_option maxHeartbeats 4000000 in
theorem C_X8_readLine (h : REL c (gPos g (g.1.1 + 1)) r) (hw : WF c g) (hp : g.1.1 < lim7 c g) (h7 : r.1 7 = nI (lo c.2.1 g.1.1)) (h8 : r.1 8 = nI (eol c.2.1 (lo c.2.1 g.1.1))) (hb : r.1 11 = 0) (hR : lnR c g c1 g1 out) : Rc (d + 8) mX8_readLine [.ref 165] (RS S r) (rlP S r c1 g1 out) := by
  have hlim := hw.lim
  have hpc : g.1.1 < (lnz c.2.1).length := by unfold cnt at hlim; omega
  have hli := lo_in hpc
  have hee := eol_le (xs := c.2.1) (k := lo c.2.1 g.1.1) (Nat.le_of_lt hli.1)
  have hsl := h.1.2.1
  have hln := hw.2.2.2.2.1
  -- the line is counted
  have hR1 : REL c (gLn c g) (rF r 9 (nI (g.1.2.1 + 1))) := by
    obtain ⟨k1, k2, k3, k4, k5, k6, k7, k8, k9, k10, k11⟩ := h
    have hx : eqx [9] [] r (rF r 9 (nI (g.1.2.1 + 1))) := eqx.f (by decide)
    refine ⟨k1, k2, k3, rfl, k5, k6, k7, k8, fun j hj => (k9 j hj).mv (fre.of hx (fun x hx => by cases hx) (by have : j < g.2.1 := hj; have : g.2.1 ≤ 20 := k8; omega)) rfl (fun _ _ z => z), fun j hj => ?_, k11⟩
    have e := k10 j hj
    show r.2.1 175 j = nI (match iL g with
      | none => g.1.1 + 1
      | some j => (g.2.2.1 j).2.1.2.2.2)
    have hj2 := ouL_some _ _ hj
    cases hq : iL g with
    | none =>
      have := inL_none _ hq j hj2.1
      rw [show hasL (kdG g j) = true from hj2.2] at this
      cases this
    | some i =>
      have hi := inL_lt _ _ hq
      show r.2.1 175 j = nI (g.2.2.1 i).2.1.2.2.2
      rw [(hw.2.1 i hi.1 hi.2).2.2.2.2]
      exact e
  have hTD : iL (gLn c g) = none → (gLn c g).1.2.2.2.1 = (gLn c g).1.1 := by
    intro z
    have z : iL g = none := z
    show (match iL g with
      | none => g.1.1 + 1
      | some j => (g.2.2.1 j).2.1.2.2.2) = g.1.1 + 1
    rw [z]
  have hb1 : (rF r 9 (nI (g.1.2.1 + 1))).1 11 = 0 := hb
  have kr1 : kept r (rF r 9 (nI (g.1.2.1 + 1))) := (eqx.f (F := [9]) (A := []) (by decide)).kp (by decide) (by decide)
  generalize hrr : rF r 9 (nI (g.1.2.1 + 1)) = r1 at hR1 hb1 kr1
  have h71 : r1.1 7 = nI (lo c.2.1 g.1.1) := by rw [← hrr]; exact h7
  have h81 : r1.1 8 = nI (eol c.2.1 (lo c.2.1 g.1.1)) := by rw [← hrr]; exact h8
  refine Rc.of ?_
  -- something is wrong
  have l46 : ∀ (r2 : zR) (L : Nat → Option Value), (∃ k, r2.1 11 = nI k ∧ 0 < k ∧ k < 8) → kept r r2 → out = 2 → DN c1 g1 r2 → L 0 = some (.ref 165) → Ru (d + 8) mX8_readLine 46 L [] (RS S r2) (z_en mX8_readLine (rlP S r c1 g1 out)) := by
    intro r2 L ⟨k, hk1, hk2, hk3⟩ hkp ho hD l0
    refine r_aload_n dX8_readLine_46 (by first | rfl | assumption) ?_
    refine r8_get dX8_readLine_47 zf_X8_142 rfl ?_
    rw [hk1]
    refine r_if_eq_f (tgt := 55) dX8_readLine_50 (by decide) (nI_ne0 hk2 (by omega)) ?_
    refine r_ic (0) dX8_readLine_53 rfl ?_
    refine r_ireturn dX8_readLine_54 _ rfl rfl ⟨r2, rfl, hkp, Or.inr (Or.inr ⟨ho, rfl, hD⟩)⟩
  have l35 : ∀ (r2 : zR) (L : Nat → Option Value), (∃ k, r2.1 11 = nI k ∧ 0 < k ∧ k < 8) → kept r r2 → out = 2 → DN c1 g1 r2 → L 0 = some (.ref 165) → Ru (d + 8) mX8_readLine 35 L [] (RS S r2) (z_en mX8_readLine (rlP S r c1 g1 out)) := by
    intro r2 L hk hkp ho hD l0
    obtain ⟨k, hk1, hk2, hk3⟩ := hk
    refine r_aload_n dX8_readLine_35 (by first | rfl | assumption) ?_
    refine r8_get dX8_readLine_36 zf_X8_142 rfl ?_
    rw [hk1]
    refine r_if_ne_t (tgt := 46) dX8_readLine_39 (by decide) (nI_ne0 hk2 (by omega)) ?_
    exact l46 r2 L ⟨k, hk1, hk2, hk3⟩ hkp ho hD l0
  refine r_aload_n dX8_readLine_0 (by first | rfl | assumption) ?_
  refine r_dup dX8_readLine_1 rfl ?_
  refine r8_get dX8_readLine_2 zf_X8_286 rfl ?_
  refine r_ic (1) dX8_readLine_5 rfl ?_
  rw [h.2.2.2.1]
  refine r_iadd dX8_readLine_6 ?_
  rw [show (nI (gPos g (g.1.1 + 1)).1.2.1 + 1 : Int32) = nI (g.1.2.1 + 1) from nI_1 _]
  refine r8_put dX8_readLine_7 zf_X8_286 (Nat.le_of_ble_eq_true rfl) rfl (⟨rfl, rfl⟩) ?_
  refine r_aload_n dX8_readLine_10 (by first | rfl | assumption) ?_
  refine r8_get dX8_readLine_11 zf_X8_286 rfl ?_
  rw [hrr, show r1.1 9 = nI (g.1.2.1 + 1) from hR1.2.2.2.1]
  refine r_ldc dX8_readLine_14 zk_X8_9 ?_
  by_cases q1 : g.1.2.1 + 1 ≤ 65536
  · refine r_icmp_le_t (tgt := 24) dX8_readLine_16 (by decide) (nI_le (b := 65536) q1 (by decide)) ?_
    refine r_aload_n dX8_readLine_24 (by first | rfl | assumption) ?_
    refine r8_get dX8_readLine_25 zf_X8_142 rfl ?_
    refine r_if_ne_f (tgt := 35) dX8_readLine_28 (by decide) (hb1) ?_
    refine r_aload_n dX8_readLine_31 (by first | rfl | assumption) ?_
    -- the line as it is read
    have e0 : ∀ x, (match iM g with
        | none => some (seg c.2.1 (lo c.2.1 g.1.1) (eol c.2.1 (lo c.2.1 g.1.1)))
        | some j => match (g.2.2.1 j).2.2.2.2.1 with
          | none => none
          | some q => wrF c.2.1 (eol c.2.1 (lo c.2.1 g.1.1)) (g.2.2.1 j).2.2.2.1 q.2.2.1 (g.2.2.1 j).2.2.2.2.2.1 (g.2.2.1 j).2.2.2.2.2.2 1024 (eol c.2.1 (lo c.2.1 g.1.1) - lo c.2.1 g.1.1) (lo c.2.1 g.1.1) []) = x → fil c g g.1.1 = x := by
      intro x hx
      unfold fil ln7
      rw [hli.2, if_neg (by show ¬ 1024 < eol c.2.1 (lo c.2.1 g.1.1) - lo c.2.1 g.1.1; omega)]
      exact hx
    have hexp : Rc (d + 7) mX8_expand [.ref 165] (RS S r1) (exP S r1 (own (kdG (gLn c g)) r1 (gLn c g).2.1) (fil c g g.1.1)) := by
      cases hj : iM g with
      | none =>
        have := C_X8_expand (d := d + 4) (S := S) (sn := 0) (ps := []) (gv := []) (gs := []) hR1.1 hR1.fk h71 h81 hee.1 hee.2 hb1 (fun j hz => by rw [show inM (kdG (gLn c g)) (gLn c g).2.1 = none from hj] at hz; cases hz)
        rw [show inM (kdG (gLn c g)) (gLn c g).2.1 = none from hj] at this
        have ew := seg_G (src := c.2.1) (en := eol c.2.1 (lo c.2.1 g.1.1)) (lim := 1024) hee.2 _ (lo c.2.1 g.1.1) [] rfl hee.1 (by rw [List.nil_append, seg_len hee.2]; omega)
        rw [List.nil_append] at ew
        rw [e0 _ (by rw [hj]), ← ew]
        exact this
      | some j =>
        have hj2 := inM_lt _ _ hj
        have h20 : g.2.1 ≤ 20 := hR1.2.2.2.2.2.2.2.1
        rcases hR1.2.2.2.2.2.2.2.2.1 j hj2.1 with ⟨z, -⟩ | ⟨z, -⟩ | ⟨-, -, -, -, -, -, ⟨q, z1, dd, z2, z3⟩, z4, z5, z6⟩
        · have z : kdG g j = 1 ∨ kdG g j = 2 := z
          rw [hj2.2] at z
          rcases z with z | z <;> exact absurd z (by decide)
        · have z : kdG g j = 4 := z
          rw [hj2.2] at z
          exact absurd z (by decide)
        · have z1 : (g.2.2.1 j).2.2.2.2.1 = some q := z1
          have hdl : dd < g.2.2.2.1.length := (List.getElem?_eq_some_iff.mp z2).1
          have hMS := hR1.2.2.2.2.2.2.2.2.2.2
          have hml : g.2.2.2.1.length ≤ 512 := hMS.2.1
          obtain ⟨-, -, -, ⟨p, hp3, hPL⟩, -⟩ := hMS.2.2 dd q z2
          have := C_X8_expand (d := d + 4) (S := S) (sn := (g.2.2.1 j).2.2.2.1) (ps := q.2.2.1) (gv := (g.2.2.1 j).2.2.2.2.2.1) (gs := (g.2.2.1 j).2.2.2.2.2.2) hR1.1 hR1.fk h71 h81 hee.1 hee.2 hb1 (fun i hz => by
            rw [show inM (kdG (gLn c g)) (gLn c g).2.1 = some j from hj] at hz
            cases hz
            exact ⟨by omega, ⟨dd, p, z3, by omega, hp3, hPL⟩, z4, z5, z6, by have := hPL.len; omega⟩)
          rw [show inM (kdG (gLn c g)) (gLn c g).2.1 = some j from hj] at this
          have e1 : fil c g g.1.1 = wrF c.2.1 (eol c.2.1 (lo c.2.1 g.1.1)) (g.2.2.1 j).2.2.2.1 q.2.2.1 (g.2.2.1 j).2.2.2.2.2.1 (g.2.2.1 j).2.2.2.2.2.2 1024 (eol c.2.1 (lo c.2.1 g.1.1) - lo c.2.1 g.1.1) (lo c.2.1 g.1.1) [] := by
            refine e0 _ ?_
            rw [hj]
            show (match (g.2.2.1 j).2.2.2.2.1 with
              | none => none
              | some q => wrF c.2.1 (eol c.2.1 (lo c.2.1 g.1.1)) (g.2.2.1 j).2.2.2.1 q.2.2.1 (g.2.2.1 j).2.2.2.2.2.1 (g.2.2.1 j).2.2.2.2.2.2 1024 (eol c.2.1 (lo c.2.1 g.1.1) - lo c.2.1 g.1.1) (lo c.2.1 g.1.1) []) = _
            rw [z1]
          rw [e1, wrF_G]
          exact this
    refine r_callV0 dX8_readLine_32 zm_X8_289 RS_o rfl (Nat.le_of_ble_eq_true rfl) (Nat.le_of_ble_eq_true rfl) (hexp) (fun v S9 hv => ?_)
    obtain ⟨rfl, r2, rfl, hv⟩ := hv
    have how := hR1.ow hTD
    cases hf : fil c g g.1.1 with
    | none =>
      rw [hf] at hv
      obtain ⟨hx2, e11, e12⟩ := hv
      obtain ⟨ys, hg1, ho, hc1⟩ : ∃ ys, g1 = gFl (gRd (gLn c g) ys) 5 ∧ out = 2 ∧ c1 = c := by
        rcases hR with ⟨z, -⟩ | ⟨-, -, ⟨ys, z⟩, z2, z3⟩ | ⟨-, r9, z, -⟩ | ⟨-, r9, ts, sv, ce, la, z, -⟩
        · omega
        · exact ⟨ys, z, z2, z3⟩
        · rw [hf] at z; cases z
        · rw [hf] at z; cases z
      refine l35 r2 _ ⟨5, e11, by decide, by decide⟩ (kr1.tr (hx2.kp (by decide) (by decide))) ho ?_ rfl
      rw [hg1, hc1]
      exact ⟨⟨_, _, hR1.fk.mv hx2 (by decide) (by decide)⟩, hR1.1.mv hx2 (by decide) (by decide), Or.inl ⟨e11, show 0 < 5 by decide, show 5 < 8 by decide, by rw [e12]; exact how⟩⟩
    | some ys =>
      rw [hf] at hv
      obtain ⟨hx2, hL2, hl2⟩ := hv
      have hR2 : REL c (gLn c g) r2 := hR1.mv hx2 (by decide) (by decide)
      have hb2 : r2.1 11 = 0 := (hx2.1 11 (by decide)).trans hb1
      have kr2 := kr1.tr (hx2.kp (by decide) (by decide))
      refine r_aload_n dX8_readLine_35 (by first | rfl | assumption) ?_
      refine r8_get dX8_readLine_36 zf_X8_142 rfl ?_
      refine r_if_ne_f (tgt := 46) dX8_readLine_39 (by decide) (hb2) ?_
      refine r_aload_n dX8_readLine_42 (by first | rfl | assumption) ?_
      refine r_callV0 dX8_readLine_43 zm_X8_292 RS_o rfl (Nat.le_of_ble_eq_true rfl) (Nat.le_of_ble_eq_true rfl) (C_X8_readTokens hL2 hl2 hR2.fk hb2) (fun v S9 hv => ?_)
      obtain ⟨rfl, r3, rfl, hv⟩ := hv
      cases hts : tks ys with
      | none =>
        rw [hts] at hv
        obtain ⟨hx3, e11, e12⟩ := hv
        obtain ⟨hg1, ho, ts, sv, hc1⟩ : g1 = gFl (gRd (gLn c g) ys) 1 ∧ out = 2 ∧ ∃ ts sv, c1 = cTk c ts sv := by
          rcases hR with ⟨z, -⟩ | ⟨-, z, -⟩ | ⟨-, r9, z, z1, z2, z3, z4⟩ | ⟨-, r9, ts, sv, ce, la, z, z1, -⟩
          · omega
          · rw [hf] at z; cases z
          · rw [hf] at z; cases z; exact ⟨z2, z3, z4⟩
          · rw [hf] at z; cases z; rw [hts] at z1; cases z1
        refine l46 r3 _ ⟨1, e11, by decide, by decide⟩ (kr2.tr (hx3.kp (by decide) (by decide))) ho ?_ rfl
        rw [hg1, hc1]
        exact ⟨⟨_, _, hR2.fk.mv hx3 (by decide) (by decide)⟩, hR2.1.mv hx3 (by decide) (by decide), Or.inl ⟨e11, show 0 < 1 by decide, show 1 < 8 by decide, by rw [e12]; exact hR2.ow hTD⟩⟩
      | some ts =>
        rw [hts] at hv
        obtain ⟨hx3, hT3, hE3⟩ := hv
        obtain ⟨sv, ce, la, hsec, he, hc1⟩ : ∃ sv ce la, secOk ts sv.2.2 ∧ (g1, out) = cRun (cTk c ts sv) (gRd (gLn c g) ys) ce ∧ c1 = cLa (cTk c ts sv) la := by
          rcases hR with ⟨z, -⟩ | ⟨-, z, -⟩ | ⟨-, r9, z, z1, -⟩ | ⟨-, r9, ts9, sv, ce, la, z, z1, z2, z3, z4⟩
          · omega
          · rw [hf] at z; cases z
          · rw [hf] at z; cases z; rw [hts] at z1; cases z1
          · rw [hf] at z; cases z; rw [hts] at z1; cases z1; exact ⟨sv, ce, la, z2, z3, z4⟩
        have hR3 : REL (cTk c ts sv) (gRd (gLn c g) ys) r3 := hR2.mv hx3 (by decide) (by decide)
        have hb3 : r3.1 11 = 0 := (hx3.1 11 (by decide)).trans hb2
        have hL3 : LN r3 ys := hL2.mv hx3 (by decide) (by decide)
        have kr3 := kr2.tr (hx3.kp (by decide) (by decide))
        have e1 : g1 = (cRun (cTk c ts sv) (gRd (gLn c g) ys) ce).1 := congrArg Prod.fst he
        have e2 : out = (cRun (cTk c ts sv) (gRd (gLn c g) ys) ce).2 := congrArg Prod.snd he
        have hxs : iL g = none → ys = seg c.2.1 (lo c.2.1 g.1.1) (eol c.2.1 (lo c.2.1 g.1.1)) := by
          intro z
          have := hf
          unfold fil ln7 at this
          rw [hli.2, if_neg (by show ¬ 1024 < eol c.2.1 (lo c.2.1 g.1.1) - lo c.2.1 g.1.1; omega), iM_none z] at this
          exact (Option.some.inj this).symm
        have hnm : iL g = none → g.2.2.2.1.length < 512 := by
          intro z
          have h6 := hw.2.2.2.2.2.1
          have := hw.sp
          have := cnt_len (c := c)
          omega
        refine r_aload_n dX8_readLine_46 (by first | rfl | assumption) ?_
        refine r8_get dX8_readLine_47 zf_X8_142 rfl ?_
        refine r_if_eq_t (tgt := 55) dX8_readLine_50 (by decide) (hb3) ?_
        have hrun := C_X8_run (d := d + 1) (S := S) (c := cTk c ts sv) (g := gRd (gLn c g) ys) ce hR3 hTD hb3 hL3 hl2 hT3 hE3 hts rfl hsec rfl ((hx3.1 7 (by decide)).trans ((hx2.1 7 (by decide)).trans h71)) (show lo c.2.1 g.1.1 = lo c.2.1 (g.1.1 + 1 - 1) by rw [Nat.add_sub_cancel]) ⟨Nat.succ_le_succ (Nat.zero_le _), hpc⟩ hxs hnm (by show g.1.2.2.1 ≤ 65536; omega) (L := z_lf (lv_args 0 [.ref 165])) rfl rfl
        refine hrun.mono ?_
        rintro pc st S9 ⟨u, hu1, r9, hu2, hu3, hu4⟩
        rw [← e1, ← e2] at hu4
        have : rlP S r (cTk c ts sv) g1 out u S9 := ⟨r9, hu2, kr3.tr hu3, hu4⟩
        rw [hc1]
        exact ⟨u, hu1, this.cg rfl⟩
  · refine r_icmp_le_f (tgt := 24) dX8_readLine_16 (by decide) (nI_ge (a := 65536) (by omega) (by omega)) ?_
    refine r_aload_n dX8_readLine_19 (by first | rfl | assumption) ?_
    refine r_ic (5) dX8_readLine_20 rfl ?_
    refine r_callV1 dX8_readLine_21 zm_X8_189 RS_o rfl (Nat.le_of_ble_eq_true rfl) (Nat.le_of_ble_eq_true rfl) (C_X8_fl (k := 5) hR1 hTD (eqx.rf (A := [])) hb1 (by decide)) (fun v S9 hv => ?_)
    obtain ⟨rfl, r2, rfl, hB⟩ := hv
    obtain ⟨hg1, ho, hc1⟩ : g1 = gFl (gLn c g) 5 ∧ out = 2 ∧ c1 = c := by
      rcases hR with ⟨-, z1, z2, z3⟩ | ⟨z, -⟩ | ⟨z, -⟩ | ⟨z, -⟩
      · exact ⟨z1, z2, z3⟩
      · omega
      · omega
      · omega
    refine r_aload_n dX8_readLine_24 (by first | rfl | assumption) ?_
    refine r8_get dX8_readLine_25 zf_X8_142 rfl ?_
    rw [hB.2.1]
    refine r_if_ne_t (tgt := 35) dX8_readLine_28 (by decide) (nI_ne0 (by decide) (by decide)) ?_
    refine l35 r2 _ ⟨5, hB.2.1, by decide, by decide⟩ (kr1.tr (hB.1.kp (by decide) (by decide))) ho ?_ rfl
    rw [hg1, hc1]
    exact hB.dn hR1 (by decide) (by decide)
end
