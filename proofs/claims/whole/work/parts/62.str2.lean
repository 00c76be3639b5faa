section
variable {d : Nat} {S : zS} {r r' : zR} {c : zD} {g : zG}
theorem rFd_v {a b e f : Int32} : (rFd r a b e f).1 46 = a ∧ (rFd r a b e f).1 47 = b ∧ (rFd r a b e f).1 48 = e ∧ (rFd r a b e f).1 49 = f := ⟨rfl, rfl, rfl, rfl⟩
set_option maxRecDepth 10000 in
set_option maxHeartbeats 4000000 in
/-- if, rept -/
theorem C_X8_str14 {w : Nat} {xs : List Nat} {ts : List zT} (h : REL c g r) (ht : iL g = none → g.1.2.2.2.1 = g.1.1) (hb : r.1 11 = 0) (hT : TK r xs ts) (hct : c.2.2.2.1 = ts) (hsec : secOk ts (sec7 c)) (hw : w = 1 ∨ w = 4) (hk : ¬ (g.2.1 = 20 ∨ ((fz c g w false).isNone && (iL g).isSome) = true)) : Rc (d + 5) mX8_structure [.ref 165, .int (nI w)] (RS S r) (stX S c r (if w = 1 then cIf c g else cRept c g)) := by
  have hts := hT.2.1
  have e19 := h.2.2.2.2.2.2.1
  have h20 : g.2.1 < 20 := by
    have := h.2.2.2.2.2.2.2.1
    have : g.2.1 ≠ 20 := fun z => hk (Or.inl z)
    omega
  have dn : ∀ k, k < 9 → w ≠ k → ¬ nI w = nI k := fun k hk hne z => hne ((nI_eq (by omega) (by omega)).mp z)
  have d1 : w ≠ 2 ∧ w ≠ 3 ∧ w ≠ 6 ∧ w < 8 := by rcases hw with rfl | rfl <;> decide
  generalize hres : (if w = 1 then cIf c g else cRept c g) = res
  refine Rc.of (str_pre h rfl rfl ?_)
  intro L l0 l1 l2 l3 lj
  have l85 : numA ts = false → ∀ L : Nat → Option Value, L 0 = some (.ref 165) → Ru (d + 5) mX8_structure 85 L [] (RS S r) (z_en mX8_structure (stX S c r res)) := by
    intro q L l0
    refine r_aload_n dX8_structure_85 (by first | rfl | assumption) ?_
    refine r_ic (1) dX8_structure_86 rfl ?_
    refine r_callV1 dX8_structure_87 zm_X8_189 RS_o rfl (Nat.le_of_ble_eq_true rfl) (Nat.le_of_ble_eq_true rfl) (C_X8_fl (k := 1) h ht (eqx.rf (A := [])) hb (by decide)) (fun v S9 hv => ?_)
    obtain ⟨rfl, r2, rfl, hB⟩ := hv
    refine r_aload_n dX8_structure_90 (by first | rfl | assumption) ?_
    refine r8_get dX8_structure_91 zf_X8_142 rfl ?_
    rw [hB.2.1]
    refine r_if_eq_f (tgt := 98) dX8_structure_94 (by decide) (nI_ne0 (by decide) (by decide)) ?_
    refine r_return dX8_structure_97 rfl ⟨rfl, r2, rfl, hB.1.kp (by decide) (by decide), Or.inr ?_⟩
    have e1 : res = (gFl g 1, 2) := by
      rw [← hres]
      rcases hw with rfl | rfl
      · rw [if_pos rfl]
        unfold cIf
        rw [if_neg hk, hct, if_pos q]
      · rw [if_neg (by decide)]
        unfold cRept
        rw [if_neg hk, hct, if_pos q]
    rw [e1]
    exact ⟨rfl, hB.dn h (by decide) (by decide)⟩
  refine r_iload_n dX8_structure_23 (by first | rfl | assumption) ?_
  refine r_bp (6) dX8_structure_24 rfl ?_
  refine r_icmp_ne_t (tgt := 34) dX8_structure_26 (by decide) (dn 6 (by decide) d1.2.2.1) ?_
  refine r_iload_n dX8_structure_34 (by first | rfl | assumption) ?_
  refine r_ic (2) dX8_structure_35 rfl ?_
  refine r_icmp_eq_f (tgt := 44) dX8_structure_36 (by decide) (dn 2 (by decide) d1.1) ?_
  refine r_iload_n dX8_structure_39 (by first | rfl | assumption) ?_
  refine r_ic (3) dX8_structure_40 rfl ?_
  refine r_icmp_ne_t (tgt := 48) dX8_structure_41 (by decide) (dn 3 (by decide) d1.2.1) ?_
  refine r_ic (0) dX8_structure_48 rfl ?_
  refine r_istore dX8_structure_49 (by decide) (by first | assumption | exact z_c1_i (by first | rfl | assumption) | exact z_c1_r (by first | rfl | assumption) | exact z_c1_n (by first | rfl | assumption) | exact z_c1_c (by first | rfl | assumption) | exact z_c1_0 (by first | rfl | assumption)) ?_
  refine r_iload dX8_structure_51 (by first | rfl | assumption) ?_
  refine r_if_eq_t (tgt := 67) dX8_structure_53 (by decide) (rfl) ?_
  refine r_aload_n dX8_structure_67 (by first | rfl | assumption) ?_
  refine r8_get dX8_structure_68 zf_X8_215 rfl ?_
  refine r_ic (2) dX8_structure_71 rfl ?_
  rw [hT.1]
  by_cases q2 : ts.length = 2
  · refine r_icmp_ne_f (tgt := 85) dX8_structure_72 (by decide) (by rw [q2]; rfl) ?_
    have hm := hT.2.2 1 (by omega)
    refine r_aload_n dX8_structure_75 (by first | rfl | assumption) ?_
    refine r8_get dX8_structure_76 zf_X8_90 rfl ?_
    refine r_ic (1) dX8_structure_79 rfl ?_
    refine r8_iald dX8_structure_80 (by decide) (rfl) (by show 1 < 1110; decide) ?_
    refine r_ic (2) dX8_structure_81 rfl ?_
    by_cases q3 : r.2.1 237 1 = 2
    · refine r_icmp_eq_t (tgt := 90) dX8_structure_82 (by decide) (q3) ?_
      have hk2 := (tkm_2 hm.2.2).mp q3
      have hnA : numA ts = true := by
        unfold numA
        rw [decide_eq_true q2, decide_eq_true hk2]
        rfl
      have hv : r.2.2 240 1 = sec7 c := by
        rcases hm.2.2 with ⟨z, -⟩ | ⟨-, -, z⟩ | ⟨z, -⟩ | ⟨z, -⟩
        · rw [hk2] at z; exact absurd z (by decide)
        · exact (hsec _ (getD_some (by omega)) _ z).symm
        · rw [hk2] at z; exact absurd z (by decide)
        · rw [hk2] at z; exact absurd z (by decide)
      refine r_aload_n dX8_structure_90 (by first | rfl | assumption) ?_
      refine r8_get dX8_structure_91 zf_X8_142 rfl ?_
      refine r_if_eq_t (tgt := 98) dX8_structure_94 (by decide) (hb) ?_
      refine r_iload dX8_structure_98 (by first | rfl | assumption) ?_
      refine r_if_eq_t (tgt := 177) dX8_structure_100 (by decide) (rfl) ?_
      refine r_aload_n dX8_structure_177 (by first | rfl | assumption) ?_
      refine r8_get dX8_structure_178 zf_X8_99 rfl ?_
      refine r_ic (1) dX8_structure_181 rfl ?_
      refine r8_lald dX8_structure_182 (by decide) ?_
      rw [hv]
      refine r_lstore dX8_structure_183 (by decide) (by first | assumption | exact z_c1_i (by first | rfl | assumption) | exact z_c1_r (by first | rfl | assumption) | exact z_c1_n (by first | rfl | assumption) | exact z_c1_c (by first | rfl | assumption) | exact z_c1_0 (by first | rfl | assumption)) ?_
      refine r_iload_n dX8_structure_185 (by first | rfl | assumption) ?_
      refine r_ic (4) dX8_structure_186 rfl ?_
      -- from the search on
      have l233 : ∀ (L : Nat → Option Value), (w = 1 → sec7 c = 0) → (w = 4 → ¬ (sec7 c < 0 ∨ 4096 < sec7 c)) → L 0 = some (.ref 165) → L 1 = some (.int (nI w)) → L 3 = some (.int (nI (lo c.2.1 (lim7 c g)))) → L 5 = some (.long (sec7 c)) → L 6 = none → z_c1 (L 7) → Ru (d + 5) mX8_structure 233 L [] (RS S r) (z_en mX8_structure (stX S c r res)) := by
        intro L hw1 hw4 l0 l1 l3 l5 l6 l7
        have ecl : res = match fz c g w (decide (w = 1)) with
            | none => (gUn c g, 2)
            | some o => if w = 1 then (if (wsO c.2.1).getD o 0 = 2 then (gOp (gPos g (o + 1)) 2, 0) else (gPos g (o + 1), 0)) else if 0 < sec7 c ∧ g.1.1 < o then (gSz (gPt g g.2.1 (4, (g.1.1, o, o + 1, g.1.2.2.2.1), (sec7 c).toInt32, (g.2.2.1 g.2.1).2.2.2)) (g.2.1 + 1), 0) else (gPos g (o + 1), 0) := by
          rw [← hres]
          rcases hw with rfl | rfl
          · rw [if_pos rfl]
            unfold cIf
            rw [if_neg hk, hct, if_neg (by rw [hnA]; exact Bool.noConfusion), if_neg (fun z => z (hw1 rfl))]
            show _ = match fz c g 1 true with
              | none => (gUn c g, 2)
              | some o => if 1 = 1 then _ else _
            cases fz c g 1 true with
            | none => rfl
            | some o => rfl
          · rw [if_neg (by decide)]
            unfold cRept
            rw [if_neg hk, hct, if_neg (by rw [hnA]; exact Bool.noConfusion), if_neg (hw4 rfl)]
            show _ = match fz c g 4 false with
              | none => (gUn c g, 2)
              | some o => if 4 = 1 then _ else _
            cases fz c g 4 false with
            | none => rfl
            | some o => rfl
        have l269 : ∀ (v : Option Value) (S1 : zS), (match fz c g w (decide (w = 1)) with
            | none => S1 = RS S r ∧ v = some (.int 0)
            | some o => S1 = RS S (rFd r (nI (lo c.2.1 o)) (nI (o + 1)) (nI ((wsO c.2.1).getD o 0)) (nI (lo c.2.1 (o + 1)))) ∧ v = some (.int 1)) → Ru (d + 5) mX8_structure 269 L (v.toList ++ []) S1 (z_en mX8_structure (stX S c r res)) := by
          intro v S1 hv
          cases hf : fz c g w (decide (w = 1)) with
          | none =>
            rw [hf] at hv ecl
            obtain ⟨rfl, rfl⟩ := hv
            have hn : iL g = none := by
              cases hj : iL g with
              | none => rfl
              | some j =>
                exfalso
                cases hz : fz c g w false with
                | none => exact hk (Or.inr (by rw [hz, hj]; rfl))
                | some o =>
                  rcases hw with rfl | rfl
                  · obtain ⟨o', ho'⟩ := fnd_oe _ _ _ _ hz
                    have hf : fz c g 1 true = none := hf
                    unfold fz fnz at hf
                    rw [ho'] at hf
                    cases hf
                  · have hf : fz c g 4 false = none := hf
                    rw [hf] at hz
                    cases hz
            refine r_istore dX8_structure_269 (by decide) (by first | assumption | exact z_c1_i (by first | rfl | assumption) | exact z_c1_r (by first | rfl | assumption) | exact z_c1_n (by first | rfl | assumption) | exact z_c1_c (by first | rfl | assumption) | exact z_c1_0 (by first | rfl | assumption)) ?_
            refine r_iload dX8_structure_271 (by first | rfl | assumption) ?_
            refine r_if_ne_f (tgt := 292) dX8_structure_273 (by decide) (rfl) ?_
            refine r_aload_n dX8_structure_276 (by first | rfl | assumption) ?_
            refine r_ic (1) dX8_structure_277 rfl ?_
            refine r8_put dX8_structure_278 zf_X8_280 (Nat.le_of_ble_eq_true rfl) rfl (⟨rfl, rfl⟩) ?_
            refine r_aload_n dX8_structure_281 (by first | rfl | assumption) ?_
            refine r_aload_n dX8_structure_282 (by first | rfl | assumption) ?_
            refine r8_get dX8_structure_283 zf_X8_160 rfl ?_
            refine r8_put dX8_structure_286 zf_X8_186 (Nat.le_of_ble_eq_true rfl) rfl (⟨rfl, rfl⟩) ?_
            refine r_goto (tgt := 382) dX8_structure_289 (by decide) ?_
            refine r_return dX8_structure_382 rfl ⟨rfl, _, rfl, ((eqx.f (F := [5, 14]) (A := []) (by decide)).tr (eqx.f (by decide))).kp (by decide) (by decide), Or.inr ?_⟩
            rw [ecl]
            exact ⟨rfl, un_dn h ((eqx.f (by decide)).tr (eqx.f (by decide))) hb rfl hn (Or.inr rfl)⟩
          | some o =>
            rw [hf] at hv ecl
            obtain ⟨rfl, rfl⟩ := hv
            have ho := fz_lt hf
            have hol : o < cnt c := Nat.lt_of_lt_of_le ho.2 h.lim
            have hR : REL c g (rFd r (nI (lo c.2.1 o)) (nI (o + 1)) (nI ((wsO c.2.1).getD o 0)) (nI (lo c.2.1 (o + 1)))) := h.mv rFd_x (by decide) (fun x hx => by cases hx)
            have hbh := h.behind (o := o) (x := nI ((wsO c.2.1).getD o 0)) hol
            have hw8 := wsO_lt c.2.1 o
            have kb : kept r (rF (rF (rFd r (nI (lo c.2.1 o)) (nI (o + 1)) (nI ((wsO c.2.1).getD o 0)) (nI (lo c.2.1 (o + 1)))) 5 (nI (lo c.2.1 (o + 1)))) 6 (nI (o + 1))) := ((rFd_x.mono (F2 := [5, 6, 46, 47, 48, 49]) (A2 := []) (by decide) (by decide)).tr ((eqx.f (by decide)).tr (eqx.f (by decide)))).kp (by decide) (by decide)
            -- behind what was found
            have l334 : ∀ (L : Nat → Option Value), (w = 4 → ¬ 0 < sec7 c) → (w = 4 → (wsO c.2.1).getD o 0 ≠ 2) → L 0 = some (.ref 165) → z_c1 (L 7) → Ru (d + 5) mX8_structure 334 L [] (RS S (rFd r (nI (lo c.2.1 o)) (nI (o + 1)) (nI ((wsO c.2.1).getD o 0)) (nI (lo c.2.1 (o + 1))))) (z_en mX8_structure (stX S c r res)) := by
              intro L hv4 hv2 l0 l7
              refine r_aload_n dX8_structure_334 (by first | rfl | assumption) ?_
              refine r8_get dX8_structure_335 zf_X8_177 rfl ?_
              refine r_ic (2) dX8_structure_338 rfl ?_
              rw [rFd_v.2.2.1]
              by_cases q5 : (wsO c.2.1).getD o 0 = 2
              · have e1 : w = 1 := hw.resolve_right (fun z => hv2 z q5)
                have ecl : res = (gOp (gPos g (o + 1)) 2, 0) := by
                  rw [ecl]
                  show (if w = 1 then (if (wsO c.2.1).getD o 0 = 2 then _ else _) else _) = _
                  rw [if_pos e1, if_pos q5]
                refine r_icmp_ne_f (tgt := 346) dX8_structure_339 (by decide) (by rw [q5]; rfl) ?_
                refine r_ic (1) dX8_structure_342 rfl ?_
                refine r_goto (tgt := 347) dX8_structure_343 (by decide) ?_
                refine r_istore dX8_structure_347 (by decide) (by first | assumption | exact z_c1_i (by first | rfl | assumption) | exact z_c1_r (by first | rfl | assumption) | exact z_c1_n (by first | rfl | assumption) | exact z_c1_c (by first | rfl | assumption) | exact z_c1_0 (by first | rfl | assumption)) ?_
                refine r_aload_n dX8_structure_349 (by first | rfl | assumption) ?_
                refine r_callV0 dX8_structure_350 zm_X8_275 RS_o rfl (Nat.le_of_ble_eq_true rfl) (Nat.le_of_ble_eq_true rfl) (C_X8_goBehind) (fun v S9 hv => ?_)
                obtain ⟨rfl, rfl⟩ := hv
                rw [rFd_v.2.2.2, rFd_v.2.1]
                refine r_iload dX8_structure_353 (by first | rfl | assumption) ?_
                refine r_if_eq_f (tgt := 365) dX8_structure_355 (by decide) (show ¬ (1 : Int32) = 0 by decide) ?_
                refine r_aload_n dX8_structure_358 (by first | rfl | assumption) ?_
                refine r_ic (1) dX8_structure_359 rfl ?_
                refine r_ic (0) dX8_structure_360 rfl ?_
                refine r_ic (0) dX8_structure_361 rfl ?_
                refine r_callV3 dX8_structure_362 zm_X8_265 RS_o rfl (Nat.le_of_ble_eq_true rfl) (Nat.le_of_ble_eq_true rfl) (C_X8_enter (f := g.2.1) hbh.2.2.2.2.2.2.1 (by omega)) (fun v S9 hv => ?_)
                obtain ⟨rfl, r3, rfl, hE⟩ := hv
                refine r_iload dX8_structure_365 (by first | rfl | assumption) ?_
                refine r_if_eq_f (tgt := 382) dX8_structure_367 (by decide) (show ¬ (1 : Int32) = 0 by decide) ?_
                refine r_aload_n dX8_structure_370 (by first | rfl | assumption) ?_
                refine r8_get dX8_structure_371 zf_X8_52 rfl ?_
                refine r_aload_n dX8_structure_374 (by first | rfl | assumption) ?_
                refine r8_get dX8_structure_375 zf_X8_139 rfl ?_
                rw [hE.2.1]
                refine r_ic (1) dX8_structure_378 rfl ?_
                refine r_isub dX8_structure_379 ?_
                rw [nI_p1]
                refine r_ic (1) dX8_structure_380 rfl ?_
                refine r8_zast dX8_structure_381 (by decide) (rfl) (by first | assumption | exact (show _ < 65536 by omega) | exact (show _ < 1100 by omega) | exact (show _ < 24 by omega) | exact (show _ < 2100 by omega) | exact (show _ < 6600 by omega) | exact (show _ < 1110 by omega)) rfl ?_
                refine r_return dX8_structure_382 rfl ⟨rfl, _, rfl, kb.tr ((hE.1.tr (eqx.a (by decide))).kp (by decide) (by decide)), Or.inl ?_⟩
                rw [ecl]
                exact ⟨rfl, (hE.1.1 11 (by decide)).trans hb, Or.inl (hbh.opElse (show g.2.1 < 20 from h20) hE)⟩
              · have ecl : res = (gPos g (o + 1), 0) := by
                  rw [ecl]
                  show (if w = 1 then (if (wsO c.2.1).getD o 0 = 2 then _ else _) else _) = _
                  rcases hw with e | e
                  · rw [if_pos e, if_neg q5]
                  · rw [if_neg (by omega), if_neg (fun z => hv4 e z.1)]
                refine r_icmp_ne_t (tgt := 346) dX8_structure_339 (by decide) (fun z => q5 ((nI_eq (b := 2) (by omega) (by decide)).mp z)) ?_
                refine r_ic (0) dX8_structure_346 rfl ?_
                refine r_istore dX8_structure_347 (by decide) (by first | assumption | exact z_c1_i (by first | rfl | assumption) | exact z_c1_r (by first | rfl | assumption) | exact z_c1_n (by first | rfl | assumption) | exact z_c1_c (by first | rfl | assumption) | exact z_c1_0 (by first | rfl | assumption)) ?_
                refine r_aload_n dX8_structure_349 (by first | rfl | assumption) ?_
                refine r_callV0 dX8_structure_350 zm_X8_275 RS_o rfl (Nat.le_of_ble_eq_true rfl) (Nat.le_of_ble_eq_true rfl) (C_X8_goBehind) (fun v S9 hv => ?_)
                obtain ⟨rfl, rfl⟩ := hv
                rw [rFd_v.2.2.2, rFd_v.2.1]
                refine r_iload dX8_structure_353 (by first | rfl | assumption) ?_
                refine r_if_eq_t (tgt := 365) dX8_structure_355 (by decide) (rfl) ?_
                refine r_iload dX8_structure_365 (by first | rfl | assumption) ?_
                refine r_if_eq_t (tgt := 382) dX8_structure_367 (by decide) (rfl) ?_
                refine r_return dX8_structure_382 rfl ⟨rfl, _, rfl, kb, Or.inl ?_⟩
                rw [ecl]
                exact ⟨rfl, hb, Or.inl hbh⟩
            refine r_istore dX8_structure_269 (by decide) (by first | assumption | exact z_c1_i (by first | rfl | assumption) | exact z_c1_r (by first | rfl | assumption) | exact z_c1_n (by first | rfl | assumption) | exact z_c1_c (by first | rfl | assumption) | exact z_c1_0 (by first | rfl | assumption)) ?_
            refine r_iload dX8_structure_271 (by first | rfl | assumption) ?_
            refine r_if_ne_t (tgt := 292) dX8_structure_273 (by decide) (show ¬ (1 : Int32) = 0 by decide) ?_
            refine r_iload_n dX8_structure_292 (by first | rfl | assumption) ?_
            refine r_ic (4) dX8_structure_293 rfl ?_
            rcases hw with rfl | rfl
            · refine r_icmp_ne_t (tgt := 334) dX8_structure_294 (by decide) (by decide) ?_
              exact l334 _ (fun z => absurd z (by decide)) (fun z => absurd z (by decide)) l0 (z_c1_i rfl)
            · refine r_icmp_ne_f (tgt := 334) dX8_structure_294 (by decide) (rfl) ?_
              refine r_lload dX8_structure_297 (by first | rfl | assumption) ?_
              refine r_lc (0) dX8_structure_299 rfl ?_
              refine r_lcmp dX8_structure_300 ?_
              have hne2 : (wsO c.2.1).getD o 0 ≠ 2 := by
                have : ∀ (ws : List Nat) (n i op o : Nat), fnd ws 5 4 true false n i op = some o → ws.getD o 0 = 5 := by
                  intro ws n
                  induction n with
                  | zero => intro i op o h; cases h
                  | succ n ih =>
                    intro i op o h
                    have h : (if op = 0 ∧ (ws.getD i 0 = 5 ∨ (false = true ∧ ws.getD i 0 = 2)) then some i else fnd ws 5 4 true false n (i + 1) (if ws.getD i 0 = 5 then op - 1 else if true = true ∧ ws.getD i 0 = 4 then op + 1 else op)) = some o := h
                    split at h
                    · next q =>
                      cases h
                      rcases q.2 with z | z
                      · exact z
                      · cases z.1
                    · exact ih _ _ _ h
                rw [this _ _ _ _ _ hf]
                decide
              by_cases q6 : 0 < sec7 c
              · refine r_if_le_f (tgt := 334) dX8_structure_301 (by decide) (fun z => absurd (lg_gt.mpr q6) (Int32.not_lt.mpr z)) ?_
                have ecl : res = if 0 < sec7 c ∧ g.1.1 < o then (gSz (gPt g g.2.1 (4, (g.1.1, o, o + 1, g.1.2.2.2.1), (sec7 c).toInt32, (g.2.2.1 g.2.1).2.2.2)) (g.2.1 + 1), 0) else (gPos g (o + 1), 0) := ecl
                refine r_aload_n dX8_structure_304 (by first | rfl | assumption) ?_
                refine r_ic (4) dX8_structure_305 rfl ?_
                refine r_aload_n dX8_structure_306 (by first | rfl | assumption) ?_
                refine r8_get dX8_structure_307 zf_X8_171 rfl ?_
                refine r_aload_n dX8_structure_310 (by first | rfl | assumption) ?_
                refine r8_get dX8_structure_311 zf_X8_174 rfl ?_
                rw [rFd_v.1, rFd_v.2.1]
                refine r_callV3 dX8_structure_314 zm_X8_265 RS_o rfl (Nat.le_of_ble_eq_true rfl) (Nat.le_of_ble_eq_true rfl) (C_X8_enter (f := g.2.1) hR.2.2.2.2.2.2.1 (by omega)) (fun v S9 hv => ?_)
                obtain ⟨rfl, r3, rfl, hE⟩ := hv
                refine r_aload_n dX8_structure_317 (by first | rfl | assumption) ?_
                refine r8_get dX8_structure_318 zf_X8_40 rfl ?_
                refine r_aload_n dX8_structure_321 (by first | rfl | assumption) ?_
                refine r8_get dX8_structure_322 zf_X8_139 rfl ?_
                rw [hE.2.1]
                refine r_ic (1) dX8_structure_325 rfl ?_
                refine r_isub dX8_structure_326 ?_
                rw [nI_p1]
                refine r_lload dX8_structure_327 (by first | rfl | assumption) ?_
                refine r_l2i dX8_structure_329 ?_
                refine r8_iast dX8_structure_330 (by decide) (rfl) (by first | assumption | exact (show _ < 65536 by omega) | exact (show _ < 1100 by omega) | exact (show _ < 24 by omega) | exact (show _ < 2100 by omega) | exact (show _ < 6600 by omega) | exact (show _ < 1110 by omega)) ?_
                refine r_goto (tgt := 382) dX8_structure_331 (by decide) ?_
                have kb2 : kept r (rA r3 174 g.2.1 (sec7 c).toInt32) := (rFd_x.kp (by decide) (by decide)).tr (((hE.1.mono (A2 := [169, 170, 171, 172, 173, 174, 175, 178]) (fun _ z => z) (by decide)).tr (eqx.a (by decide))).kp (by decide) (by decide))
                by_cases q7 : g.1.1 < o
                · refine r_return dX8_structure_382 rfl ⟨rfl, _, rfl, kb2, Or.inl ?_⟩
                  rw [ecl, if_pos ⟨q6, q7⟩]
                  exact ⟨rfl, (hE.1.1 11 (by decide)).trans hb, Or.inl (hR.opRept ht h20 hE q7 hol)⟩
                · refine r_return dX8_structure_382 rfl ⟨rfl, _, rfl, kb2, Or.inl ?_⟩
                  rw [ecl, if_neg (fun z => q7 z.2)]
                  have eo : o = g.1.1 := by omega
                  obtain ⟨a, ha1, ha2⟩ := hR.2.1
                  have ea : a = lo c.2.1 o := by rw [eo]; exact ha2.2.2.1 (by unfold cnt at hol; omega)
                  refine ⟨rfl, (hE.1.1 11 (by decide)).trans hb, Or.inr ⟨o, rfl, hol, h20, hE.2.1, ?_, ?_, ?_, ?_, ?_, ?_⟩⟩
                  · rw [rA_o (by decide)]; exact hE.2.2.2.1
                  · rw [rA_o (by decide)]; exact hE.2.2.2.2.1
                  · show r3.1 5 = _
                    rw [hE.1.1 5 (by decide), ha1, ea]
                  · rw [rA_o (by decide)]
                    exact hE.2.2.2.2.2.2.1.trans (by rw [ha1, ea])
                  · rw [rA_o (by decide)]; exact hE.2.2.2.2.2.1
                  · have hat : atL c.2.1 (o + 1) (eol c.2.1 (lo c.2.1 o) + 1) := atL_next (atL_lo (Nat.le_of_lt hol) h.1.2.1) hol h.1.2.1
                    have h10 := hR.at (r' := rF (rF (rFd r (nI (lo c.2.1 o)) (nI (o + 1)) (nI ((wsO c.2.1).getD o 0)) (nI (lo c.2.1 (o + 1)))) 5 (nI (eol c.2.1 (lo c.2.1 o) + 1))) 6 (nI (o + 1))) ((eqx.f (by decide)).tr (eqx.f (by decide))) rfl hat rfl
                    refine h10.fr (fun x hx => ?_) ?_ (fun j hj => ?_) (fun k k1 k2 => ?_)
                    · have hx3 : ∀ y, y ≠ 19 → r3.1 y = (rFd r (nI (lo c.2.1 o)) (nI (o + 1)) (nI ((wsO c.2.1).getD o 0)) (nI (lo c.2.1 (o + 1)))).1 y := fun y hy => hE.1.1 y (fun z => hy (List.mem_singleton.mp z))
                      simp only [List.mem_cons, List.not_mem_nil, or_false] at hx
                      rcases hx with rfl | rfl | rfl | rfl | rfl | rfl | rfl | rfl
                      · exact hx3 4 (by decide)
                      · rfl
                      · rfl
                      · exact hx3 9 (by decide)
                      · exact hx3 10 (by decide)
                      · exact hx3 14 (by decide)
                      · exact e19.symm
                      · exact hx3 33 (by decide)
                    · exact (rA_o (by decide)).trans (hE.1.2 167 (by decide)).1
                    · have hj : j < g.2.1 := hj
                      have := hE.fre (j := j) (by omega) (by omega)
                      exact ⟨fun k h1 h2 => (rA_j (by omega)).trans (this.1 k h1 h2), (rA_j (by omega)).trans this.2.1, (rA_o (by omega)).trans this.2.2.1, (rA_o (by omega)).trans this.2.2.2⟩
                    · exact (rA_o (by omega)).trans (hE.1.2 k (fun z => by simp only [List.mem_cons, List.not_mem_nil, or_false] at z; omega)).1
              · refine r_if_le_t (tgt := 334) dX8_structure_301 (by decide) (Int32.not_lt.mp (fun z => q6 (lg_gt.mp z))) ?_
                exact l334 _ (fun _ => q6) (fun _ => hne2) l0 (z_c1_i rfl)
        refine r_aload_n dX8_structure_233 (by first | rfl | assumption) ?_
        refine r_aload_n dX8_structure_234 (by first | rfl | assumption) ?_
        refine r8_get dX8_structure_235 zf_X8_186 rfl ?_
        refine r_aload_n dX8_structure_238 (by first | rfl | assumption) ?_
        refine r8_get dX8_structure_239 zf_X8_136 rfl ?_
        rw [h.2.2.1]
        refine r_ic (1) dX8_structure_242 rfl ?_
        refine r_iadd dX8_structure_243 ?_
        rw [nI_1]
        refine r_iload_n dX8_structure_244 (by first | rfl | assumption) ?_
        refine r_iload_n dX8_structure_245 (by first | rfl | assumption) ?_
        refine r_iload_n dX8_structure_246 (by first | rfl | assumption) ?_
        refine r_ic (1) dX8_structure_247 rfl ?_
        rcases hw with rfl | rfl
        · refine r_icmp_ne_f (tgt := 255) dX8_structure_248 (by decide) (rfl) ?_
          refine r_ic (3) dX8_structure_251 rfl ?_
          refine r_goto (tgt := 256) dX8_structure_252 (by decide) ?_
          refine r_iload_n dX8_structure_256 (by first | rfl | assumption) ?_
          refine r_ic (1) dX8_structure_257 rfl ?_
          refine r_icmp_ne_f (tgt := 265) dX8_structure_258 (by decide) (rfl) ?_
          refine r_ic (1) dX8_structure_261 rfl ?_
          refine r_goto (tgt := 266) dX8_structure_262 (by decide) ?_
          refine r_callV6 dX8_structure_266 zm_X8_251 RS_o rfl (Nat.le_of_ble_eq_true rfl) (Nat.le_of_ble_eq_true rfl) (C_X8_fz (bg := 1) (en := 3) (oe := true) h (Or.inl rfl) rfl) (fun v S9 hv => ?_)
          exact l269 v S9 hv
        · refine r_icmp_ne_t (tgt := 255) dX8_structure_248 (by decide) (by decide) ?_
          refine r_ic (5) dX8_structure_255 rfl ?_
          refine r_iload_n dX8_structure_256 (by first | rfl | assumption) ?_
          refine r_ic (1) dX8_structure_257 rfl ?_
          refine r_icmp_ne_t (tgt := 265) dX8_structure_258 (by decide) (by decide) ?_
          refine r_ic (0) dX8_structure_265 rfl ?_
          refine r_callV6 dX8_structure_266 zm_X8_251 RS_o rfl (Nat.le_of_ble_eq_true rfl) (Nat.le_of_ble_eq_true rfl) (C_X8_fz (bg := 4) (en := 5) (oe := false) h (Or.inr (Or.inl rfl)) rfl) (fun v S9 hv => ?_)
          exact l269 v S9 hv
      rcases hw with rfl | rfl
      · refine r_icmp_ne_t (tgt := 213) dX8_structure_187 (by decide) (by decide) ?_
        refine r_iload_n dX8_structure_213 (by first | rfl | assumption) ?_
        refine r_ic (1) dX8_structure_214 rfl ?_
        refine r_icmp_ne_f (tgt := 233) dX8_structure_215 (by decide) (rfl) ?_
        refine r_lload dX8_structure_218 (by first | rfl | assumption) ?_
        refine r_lc (0) dX8_structure_220 rfl ?_
        refine r_lcmp dX8_structure_221 ?_
        by_cases q4 : sec7 c = 0
        · refine r_if_eq_t (tgt := 233) dX8_structure_222 (by decide) (lcmp_0.mpr q4) ?_
          exact l233 _ (fun _ => q4) (fun z => absurd z (by decide)) l0 l1 l3 rfl rfl (show z_c1 (L 7) from z_c1_0 ((lj 7 (by decide)).trans rfl))
        · refine r_if_eq_f (tgt := 233) dX8_structure_222 (by decide) (fun z => q4 (lcmp_0.mp z)) ?_
          refine r_aload_n dX8_structure_225 (by first | rfl | assumption) ?_
          refine r_ic (1) dX8_structure_226 rfl ?_
          refine r_ic (0) dX8_structure_227 rfl ?_
          refine r_ic (0) dX8_structure_228 rfl ?_
          refine r_callV3 dX8_structure_229 zm_X8_265 RS_o rfl (Nat.le_of_ble_eq_true rfl) (Nat.le_of_ble_eq_true rfl) (C_X8_enter (f := g.2.1) e19 (by omega)) (fun v S9 hv => ?_)
          obtain ⟨rfl, r3, rfl, hE⟩ := hv
          have e1 : res = (gOp g 1, 0) := by
            rw [← hres, if_pos rfl]
            unfold cIf
            rw [if_neg hk, hct, if_neg (by rw [hnA]; exact Bool.noConfusion), if_pos q4]
          refine r_return dX8_structure_232 rfl ⟨rfl, r3, rfl, hE.1.kp (by decide) (by decide), Or.inl ?_⟩
          rw [e1]
          exact ⟨rfl, (hE.1.1 11 (by decide)).trans hb, Or.inl (h.opIf h20 hE rfl)⟩
      · refine r_icmp_ne_f (tgt := 213) dX8_structure_187 (by decide) (rfl) ?_
        have l206 : (sec7 c < 0 ∨ 4096 < sec7 c) → ∀ L : Nat → Option Value, L 0 = some (.ref 165) → Ru (d + 5) mX8_structure 206 L [] (RS S r) (z_en mX8_structure (stX S c r res)) := by
          intro q L l0
          have e1 : res = (gFl g 7, 2) := by
            rw [← hres, if_neg (by decide)]
            unfold cRept
            rw [if_neg hk, hct, if_neg (by rw [hnA]; exact Bool.noConfusion), if_pos q]
          refine r_aload_n dX8_structure_206 (by first | rfl | assumption) ?_
          refine r_bp (7) dX8_structure_207 rfl ?_
          refine r_callV1 dX8_structure_209 zm_X8_189 RS_o rfl (Nat.le_of_ble_eq_true rfl) (Nat.le_of_ble_eq_true rfl) (C_X8_fl (k := 7) h ht (eqx.rf (A := [])) hb (by decide)) (fun v S9 hv => ?_)
          obtain ⟨rfl, r2, rfl, hB⟩ := hv
          refine r_return dX8_structure_212 rfl ⟨rfl, r2, rfl, hB.1.kp (by decide) (by decide), Or.inr ?_⟩
          rw [e1]
          exact ⟨rfl, hB.dn h (by decide) (by decide)⟩
        refine r_lload dX8_structure_190 (by first | rfl | assumption) ?_
        refine r_lc (0) dX8_structure_192 rfl ?_
        refine r_lcmp dX8_structure_193 ?_
        by_cases q4 : sec7 c < 0
        · refine r_if_lt_t (tgt := 206) dX8_structure_194 (by decide) (lg_lt.mpr q4) ?_
          exact l206 (Or.inl q4) _ l0
        refine r_if_lt_f (tgt := 206) dX8_structure_194 (by decide) (fun z => q4 (lg_lt.mp z)) ?_
        refine r_lload dX8_structure_197 (by first | rfl | assumption) ?_
        refine r_ldc2 dX8_structure_199 zk_X8_278 ?_
        refine r_lcmp dX8_structure_202 ?_
        by_cases q5 : 4096 < sec7 c
        · refine r_if_le_f (tgt := 213) dX8_structure_203 (by decide) (fun z => absurd (lg_gt.mpr q5) (Int32.not_lt.mpr z)) ?_
          exact l206 (Or.inr q5) _ l0
        refine r_if_le_t (tgt := 213) dX8_structure_203 (by decide) (Int32.not_lt.mp (fun z => q5 (lg_gt.mp z))) ?_
        refine r_iload_n dX8_structure_213 (by first | rfl | assumption) ?_
        refine r_ic (1) dX8_structure_214 rfl ?_
        refine r_icmp_ne_t (tgt := 233) dX8_structure_215 (by decide) (by decide) ?_
        exact l233 _ (fun z => absurd z (by decide)) (fun _ z => z.elim q4 q5) l0 l1 l3 rfl rfl (show z_c1 (L 7) from z_c1_0 ((lj 7 (by decide)).trans rfl))
    · refine r_icmp_eq_f (tgt := 90) dX8_structure_82 (by decide) (q3) ?_
      exact l85 (by unfold numA; rw [decide_eq_false (fun z => q3 ((tkm_2 hm.2.2).mpr z)), Bool.and_false]) _ l0
  · refine r_icmp_ne_t (tgt := 85) dX8_structure_72 (by decide) (fun z => q2 ((nI_eq (b := 2) (by omega) (by decide)).mp z)) ?_
    exact l85 (by unfold numA; rw [decide_eq_false q2, Bool.false_and]) _ l0
end
