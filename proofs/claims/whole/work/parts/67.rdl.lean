/-! THE REFERENCE: a line -/
/-- behind a line, in both -/
def rlP (S : zS) (r : zR) (c1 : zD) (g1 : zG) (out : Nat) (v : Option Value) (S1 : zS) : Prop := ∃ r', S1 = RS S r' ∧ kept r r' ∧ ((out = 1 ∧ v = some (.int 1) ∧ r'.1 11 = 0 ∧ REL c1 g1 r' ∧ LN r' g1.2.2.2.2 ∧ g1.2.2.2.2.length ≤ 1024 ∧ own (kdG g1) r' g1.2.1 = nI g1.1.2.2.2.1) ∨ (out = 0 ∧ v = some (.int 0) ∧ r'.1 11 = 0 ∧ REL2 c1 g1 r') ∨ (out = 2 ∧ v = some (.int 0) ∧ DN c1 g1 r'))
section
variable {d : Nat} {S : zS} {r r0 : zR} {c : zD} {g : zG} {xs : List Nat} {ts : List zT} {ls : Nat}
theorem nsP.obey {N : Prop} {A : List Nat} {P : zR → Prop} {v : Option Value} {S1 : zS} (hv : nsP S g A r N P v S1) : v = none ∧ ∃ r', S1 = RS S r' ∧ ((N ∧ BD g 6 A r r') ∨ (¬ N ∧ eqx [46, 47, 48, 49] A r r' ∧ P r')) := hv
set_option maxRecDepth 10000 in
set_option maxHeartbeats 4000000 in
/-- from the tokens on, in both -/
theorem C_X8_run (ce : Nat × Nat × Nat) (h : REL c g r) (ht : iL g = none → g.1.2.2.2.1 = g.1.1) (hb : r.1 11 = 0) (hL : LN r xs) (hl : xs.length ≤ 1024) (hT : TK r xs ts) (hE : r.2.1 238 ts.length = nI (skB xs (tle ts))) (hts : tks xs = some ts) (hct : c.2.2.2.1 = ts) (hsec : secOk ts (sec7 c)) (hrd : g.2.2.2.2 = xs) (h7 : r.1 7 = nI ls) (hls : ls = lo c.2.1 (g.1.1 - 1)) (hp1 : 1 ≤ g.1.1 ∧ g.1.1 ≤ cnt c) (hxs : iL g = none → xs = seg c.2.1 ls (eol c.2.1 ls)) (hnm : iL g = none → g.2.2.2.1.length < 512) (hmr : g.1.2.2.1 ≤ 65536) {L : Nat → Option Value} (l0 : L 0 = some (.ref 165)) (l1 : L 1 = none) : Ru (d + 7) mX8_readLine 55 L [] (RS S r) (z_en mX8_readLine (rlP S r c (cRun c g ce).1 (cRun c g ce).2)) := by
  have hbx : ∀ k, k < xs.length → xs.getD k 0 < 256 := fun k hk => (hL.2.2 k hk).1
  have hlen : ts.length ≤ 1024 := Nat.le_trans (tkF_ok (xs := xs) (by omega) hbx _ _ _ hts).1 hl
  have hOK := tkF_OK _ _ _ hts
  have hMS := h.2.2.2.2.2.2.2.2.2.2
  have hml := hMS.2.1
  have hse0 : 0 < ts.length → (ts.getD 0 t0).2.1 ≤ (ts.getD 0 t0).2.2.1 ∧ (ts.getD 0 t0).2.2.1 ≤ xs.length := fun htl => by
    have := en_le hOK hl hbx 0 0 htl
    exact ⟨Nat.le_of_lt this.1, this.2.1⟩
  generalize hres : cRun c g ce = res
  -- a plain line
  have l104 : res = (g, 1) → ∀ L : Nat → Option Value, Ru (d + 7) mX8_readLine 104 L [] (RS S r) (z_en mX8_readLine (rlP S r c res.1 res.2)) := by
    intro e L
    rw [e]
    refine r_ic (1) dX8_readLine_104 rfl ?_
    refine r_ireturn dX8_readLine_105 _ rfl rfl ⟨r, rfl, kept.rf, Or.inl ⟨rfl, rfl, hb, h, by rw [hrd]; exact hL, by rw [hrd]; exact hl, h.ow ht⟩⟩
  -- behind what the line does
  have l140 : ∀ (r4 : zR) (S1 : zS) (v : Option Value) (L : Nat → Option Value), kept r r4 → stX S c r4 res v S1 → Ru (d + 7) mX8_readLine 140 L (v.toList ++ []) S1 (z_en mX8_readLine (rlP S r c res.1 res.2)) := by
    intro r4 S1 v L hk hv
    obtain ⟨rfl, r5, rfl, hk5, hv⟩ := hv
    refine r_ic (0) dX8_readLine_140 rfl ?_
    refine r_ireturn dX8_readLine_141 _ rfl rfl ⟨r5, rfl, hk.tr hk5, Or.inr (hv.imp (fun z => ⟨z.1, rfl, z.2⟩) (fun z => ⟨z.1, rfl, z.2⟩))⟩
  have bad : ∀ (r4 : zR) (A : List Nat) (L : Nat → Option Value), BD g 6 A r r4 → 169 ∉ A ∧ 167 ∉ A → 166 ∉ A ∧ 241 ∉ A → res.2 = 2 → res.1.1.2.2.2 = (g.1.2.2.2.1, 6) → L 0 = some (.ref 165) → Ru (d + 7) mX8_readLine 112 L [] (RS S r4) (z_en mX8_readLine (rlP S r c res.1 res.2)) := by
    intro r4 A L hB hA hA2 he1 he2 l0
    refine r_aload_n dX8_readLine_112 (by first | rfl | assumption) ?_
    refine r8_get dX8_readLine_113 zf_X8_142 rfl ?_
    rw [hB.2.1]
    refine r_if_eq_f (tgt := 121) dX8_readLine_116 (by decide) (nI_ne0 (by decide) (by decide)) ?_
    refine r_ic (0) dX8_readLine_119 rfl ?_
    have hdn := hB.dn h (by decide) hA
    refine r_ireturn dX8_readLine_120 _ rfl rfl ⟨r4, rfl, hB.1.kp (by decide) hA2, Or.inr (Or.inr ⟨he1, rfl, ?_⟩)⟩
    have e1 : res.1.1.2.2.2.1 = g.1.2.2.2.1 := by rw [he2]
    have e2 : res.1.1.2.2.2.2 = 6 := by rw [he2]
    unfold DN at hdn ⊢
    rw [e1, e2]
    exact hdn
  refine r_aload_n dX8_readLine_55 (by first | rfl | assumption) ?_
  refine r_ic (0) dX8_readLine_56 rfl ?_
  refine r_callV1 dX8_readLine_57 zm_X8_248 RS_o rfl (Nat.le_of_ble_eq_true rfl) (Nat.le_of_ble_eq_true rfl) (C_X8_isName (t := 0) hT (by decide)) (fun v S9 hv => ?_)
  obtain ⟨rfl, rfl⟩ := hv
  by_cases q1 : (ts.getD 0 t0).1 = 1
  · rw [decide_eq_true q1]
    refine r_if_eq_f (tgt := 75) dX8_readLine_60 (by decide) (show ¬ (1 : Int32) = 0 by decide) ?_
    have htl : 0 < ts.length := by
      rcases Nat.lt_or_ge 0 ts.length with z | z
      · exact z
      · rw [getD_out z] at q1; exact absurd q1 (by decide)
    have hm := hT.2.2 0 htl
    have hg := tsOK_get ts _ 0 hOK htl
    rw [q1] at hg
    have h1' := tk_1 hg.1 hg.2.1 (hbx _ hg.2.1)
    have hv : r.2.2 240 0 = pkV (seg xs (ts.getD 0 t0).2.1 (ts.getD 0 t0).2.2.1) := by
      rcases hm.2.2 with ⟨-, -, z⟩ | ⟨z, -⟩ | ⟨z, -⟩ | ⟨z, -⟩
      · exact z
      · rw [q1] at z; exact absurd z (by decide)
      · rw [q1] at z; exact absurd z (by decide)
      · rw [q1] at z; exact absurd z (by decide)
    have hnmd : ∀ b ∈ seg xs (ts.getD 0 t0).2.1 (ts.getD 0 t0).2.2.1, b < 256 ∧ fNm (nI b) = true := by
      have := seg_nm (r := r) (xs := xs) (k := (ts.getD 0 t0).2.1) (e := xs.length) (Or.inr hbx) (Nat.le_refl _) (by omega)
      have e : nmE xs (ts.getD 0 t0).2.1 xs.length = (ts.getD 0 t0).2.2.1 := h1'.1.symm
      rw [e] at this
      exact this
    have ew : w7 c g = wd (seg xs (ts.getD 0 t0).2.1 (ts.getD 0 t0).2.2.1) := by
      unfold w7
      rw [hrd, hct]
    have hw8 : w7 c g < 8 := wd_lt _
    have q1' : (c.2.2.2.1.getD 0 t0).1 = 1 := by rw [hct]; exact q1
    refine r_aload_n dX8_readLine_63 (by first | rfl | assumption) ?_
    refine r8_get dX8_readLine_64 zf_X8_99 rfl ?_
    refine r_ic (0) dX8_readLine_67 rfl ?_
    refine r8_lald dX8_readLine_68 (by decide) ?_
    rw [hv]
    refine r_callS1 dX8_readLine_69 zm_X8_156 (Nat.le_of_ble_eq_true rfl) (Nat.le_of_ble_eq_true rfl) (C_X8_word hnmd) (fun v S9 hv => ?_)
    obtain ⟨rfl, rfl⟩ := hv
    rw [← ew]
    refine r_goto (tgt := 76) dX8_readLine_72 (by decide) ?_
    refine r_istore_n dX8_readLine_76 (by decide) (by first | assumption | exact z_c1_i (by first | rfl | assumption) | exact z_c1_r (by first | rfl | assumption) | exact z_c1_n (by first | rfl | assumption) | exact z_c1_c (by first | rfl | assumption) | exact z_c1_0 (by first | rfl | assumption)) ?_
    refine r_iload_n dX8_readLine_77 (by first | rfl | assumption) ?_
    refine r_ic (-1) dX8_readLine_78 rfl ?_
    by_cases q2 : w7 c g = 0
    · refine r_icmp_ne_f (tgt := 90) dX8_readLine_79 (by decide) (by rw [q2]; rfl) ?_
      refine r_aload_n dX8_readLine_82 (by first | rfl | assumption) ?_
      refine r_ic (0) dX8_readLine_83 rfl ?_
      refine r_callV1 dX8_readLine_84 zm_X8_283 RS_o rfl (Nat.le_of_ble_eq_true rfl) (Nat.le_of_ble_eq_true rfl) (C_X8_macroNamed (t := 0) h.1 hL hl hT hMS (by decide) hse0) (fun v S9 hv => ?_)
      obtain ⟨rfl, hv⟩ := hv
      rw [if_pos q1] at hv
      have emf : mFd c g 0 = g.2.2.2.1.find? (mNm c.2.1 xs (ts.getD 0 t0).2.1 ((ts.getD 0 t0).2.2.1 - (ts.getD 0 t0).2.1)) := by
        unfold mFd
        rw [hrd, hct]
      rw [← emf] at hv
      have e3 := cRun_3 (c := c) (g := g) (ce := ce) q1' q2
      rw [hres] at e3
      cases hmf : mFd c g 0 with
      | none =>
        rw [hmf] at hv e3
        have hv : v = some (.int (-1)) := hv
        subst hv
        refine r_goto (tgt := 91) dX8_readLine_87 (by decide) ?_
        refine r_istore_n dX8_readLine_91 (by decide) (by first | assumption | exact z_c1_i (by first | rfl | assumption) | exact z_c1_r (by first | rfl | assumption) | exact z_c1_n (by first | rfl | assumption) | exact z_c1_c (by first | rfl | assumption) | exact z_c1_0 (by first | rfl | assumption)) ?_
        refine r_iload_n dX8_readLine_92 (by first | rfl | assumption) ?_
        refine r_if_lt_t (tgt := 99) dX8_readLine_93 (by decide) (show (-1 : Int32) < 0 by decide) ?_
        refine r_iload_n dX8_readLine_99 (by first | rfl | assumption) ?_
        refine r_ic (-1) dX8_readLine_100 rfl ?_
        refine r_icmp_ne_f (tgt := 106) dX8_readLine_101 (by decide) (by rw [q2]; rfl) ?_
        exact l104 e3 _
      | some q =>
        rw [hmf] at hv e3
        have e3 : res = cMac c g q := e3
        obtain ⟨dd, hdd, rfl⟩ := hv
        have hdl : dd < g.2.2.2.1.length := (List.getElem?_eq_some_iff.mp hdd).1
        refine r_goto (tgt := 91) dX8_readLine_87 (by decide) ?_
        refine r_istore_n dX8_readLine_91 (by decide) (by first | assumption | exact z_c1_i (by first | rfl | assumption) | exact z_c1_r (by first | rfl | assumption) | exact z_c1_n (by first | rfl | assumption) | exact z_c1_c (by first | rfl | assumption) | exact z_c1_0 (by first | rfl | assumption)) ?_
        refine r_iload_n dX8_readLine_92 (by first | rfl | assumption) ?_
        refine r_if_lt_f (tgt := 99) dX8_readLine_93 (by decide) (fun z => absurd z (Int32.not_lt.mpr (show nI 0 ≤ nI dd from nI_le (Nat.zero_le _) (by omega)))) ?_
        refine r_bp (8) dX8_readLine_96 rfl ?_
        refine r_istore_n dX8_readLine_98 (by decide) (by first | assumption | exact z_c1_i (by first | rfl | assumption) | exact z_c1_r (by first | rfl | assumption) | exact z_c1_n (by first | rfl | assumption) | exact z_c1_c (by first | rfl | assumption) | exact z_c1_0 (by first | rfl | assumption)) ?_
        refine r_iload_n dX8_readLine_99 (by first | rfl | assumption) ?_
        refine r_ic (-1) dX8_readLine_100 rfl ?_
        refine r_icmp_ne_t (tgt := 106) dX8_readLine_101 (by decide) (by decide) ?_
        refine r_aload_n dX8_readLine_106 (by first | rfl | assumption) ?_
        refine r_iload_n dX8_readLine_107 (by first | rfl | assumption) ?_
        refine r_iload_n dX8_readLine_108 (by first | rfl | assumption) ?_
        have nA : ∀ x, x < 180 ∨ 229 < x → x ∉ [229, 205 + g.2.1, 180 + g.2.1] := fun x hx z => by
          have := h.2.2.2.2.2.2.2.1
          simp only [List.mem_cons, List.not_mem_nil, or_false] at z
          omega
        refine r_callV2 dX8_readLine_109 zm_X8_295 RS_o rfl (Nat.le_of_ble_eq_true rfl) (Nat.le_of_ble_eq_true rfl) (C_X8_nst8 h ht hb hL hl hT hE hts htl hdd) (fun v S9 hv => ?_)
        obtain ⟨rfl, r4, rfl, hv⟩ := hv
        rcases hv with ⟨hN, hB⟩ | ⟨hN, hx4, hAR, h229⟩
        · refine bad r4 _ _ hB ⟨nA 169 (by omega), nA 167 (by omega)⟩ ⟨nA 166 (by omega), nA 241 (by omega)⟩ ?_ ?_ l0
          · rw [e3]
            unfold cMac
            by_cases z : g.2.1 = 20
            · rw [if_pos z]
            · rw [if_neg z, hct, if_pos (hN.resolve_left z)]
          · rw [e3]
            unfold cMac
            by_cases z : g.2.1 = 20
            · rw [if_pos z]; rfl
            · rw [if_neg z, hct, if_pos (hN.resolve_left z)]; rfl
        · have hs20 : g.2.1 < 20 := by
            have := h.2.2.2.2.2.2.2.1
            have : g.2.1 ≠ 20 := fun z => hN (Or.inl z)
            omega
          refine r_aload_n dX8_readLine_112 (by first | rfl | assumption) ?_
          refine r8_get dX8_readLine_113 zf_X8_142 rfl ?_
          refine r_if_eq_t (tgt := 121) dX8_readLine_116 (by decide) (by rw [hx4.1 11 (by decide)]; exact hb) ?_
          refine r_iload_n dX8_readLine_121 (by first | rfl | assumption) ?_
          refine r_bp (8) dX8_readLine_122 rfl ?_
          refine r_icmp_ne_f (tgt := 135) dX8_readLine_124 (by decide) (rfl) ?_
          refine r_aload_n dX8_readLine_127 (by first | rfl | assumption) ?_
          refine r_iload_n dX8_readLine_128 (by first | rfl | assumption) ?_
          refine r_callV1 dX8_readLine_129 zm_X8_299 RS_o rfl (Nat.le_of_ble_eq_true rfl) (Nat.le_of_ble_eq_true rfl) (C_X8_call h ht hb hs20 hx4 (by rw [hrd, hct]; exact hAR) h229 hdd hmr (by rw [hct]; exact fun z => hN (Or.inr z))) (fun v S9 hv => ?_)
          rw [← e3] at hv
          have hv1 := hv.1
          subst hv1
          refine r_goto (tgt := 140) dX8_readLine_132 (by decide) ?_
          exact l140 r S9 none _ kept.rf hv
    · have e2 := cRun_2 (c := c) (g := g) (ce := ce) q1' q2
      rw [hres] at e2
      have hwI : wI (w7 c g) = nI (w7 c g) := if_neg q2
      rw [hwI]
      have hne : ∀ w, w < 8 → ¬ nI w = -1 := by decide
      refine r_icmp_ne_t (tgt := 90) dX8_readLine_79 (by decide) (hne _ hw8) ?_
      refine r_ic (-1) dX8_readLine_90 rfl ?_
      refine r_istore_n dX8_readLine_91 (by decide) (by first | assumption | exact z_c1_i (by first | rfl | assumption) | exact z_c1_r (by first | rfl | assumption) | exact z_c1_n (by first | rfl | assumption) | exact z_c1_c (by first | rfl | assumption) | exact z_c1_0 (by first | rfl | assumption)) ?_
      refine r_iload_n dX8_readLine_92 (by first | rfl | assumption) ?_
      refine r_if_lt_t (tgt := 99) dX8_readLine_93 (by decide) (show (-1 : Int32) < 0 by decide) ?_
      refine r_iload_n dX8_readLine_99 (by first | rfl | assumption) ?_
      refine r_ic (-1) dX8_readLine_100 rfl ?_
      refine r_icmp_ne_t (tgt := 106) dX8_readLine_101 (by decide) (hne _ hw8) ?_
      refine r_aload_n dX8_readLine_106 (by first | rfl | assumption) ?_
      refine r_iload_n dX8_readLine_107 (by first | rfl | assumption) ?_
      refine r_iload_n dX8_readLine_108 (by first | rfl | assumption) ?_
      -- the words
      have fin : ∀ (r4 : zR) (L : Nat → Option Value), eqx [46, 47, 48, 49] [] r r4 → (∀ r4, eqx [46, 47, 48, 49] [] r r4 → Rc (d + 6) mX8_structure [.ref 165, .int (nI (w7 c g))] (RS S r4) (stX S c r4 res)) → L 0 = some (.ref 165) → L 1 = some (.int (nI (w7 c g))) → Ru (d + 7) mX8_readLine 112 L [] (RS S r4) (z_en mX8_readLine (rlP S r c res.1 res.2)) := by
        intro r4 L hx4 hst l0 l1
        refine r_aload_n dX8_readLine_112 (by first | rfl | assumption) ?_
        refine r8_get dX8_readLine_113 zf_X8_142 rfl ?_
        refine r_if_eq_t (tgt := 121) dX8_readLine_116 (by decide) (by rw [hx4.1 11 (by decide)]; exact hb) ?_
        refine r_iload_n dX8_readLine_121 (by first | rfl | assumption) ?_
        refine r_bp (8) dX8_readLine_122 rfl ?_
        refine r_icmp_ne_t (tgt := 135) dX8_readLine_124 (by decide) (fun z => by have := (nI_eq (b := 8) (by omega) (by decide)).mp z; omega) ?_
        refine r_aload_n dX8_readLine_135 (by first | rfl | assumption) ?_
        refine r_iload_n dX8_readLine_136 (by first | rfl | assumption) ?_
        refine r_callV1 dX8_readLine_137 zm_X8_302 RS_o rfl (Nat.le_of_ble_eq_true rfl) (Nat.le_of_ble_eq_true rfl) (hst r4 hx4) (fun v S9 hv => ?_)
        exact l140 r4 S9 v _ (hx4.kp (by decide) (by decide)) hv
      have tr : ∀ r4, eqx [46, 47, 48, 49] [] r r4 → REL c g r4 ∧ r4.1 11 = 0 ∧ TK r4 xs ts ∧ LN r4 xs ∧ r4.1 7 = nI ls := fun r4 hx4 => ⟨h.mv hx4 (by decide) (fun x hx => by cases hx), (hx4.1 11 (by decide)).trans hb, hT.mv hx4 (by decide) (by decide), hL.mv hx4 (by decide) (by decide), (hx4.1 7 (by decide)).trans h7⟩
      generalize hww : w7 c g = w at q2 hw8 e2 fin
      have hw' : w = 1 ∨ w = 2 ∨ w = 3 ∨ w = 4 ∨ w = 5 ∨ w = 6 ∨ w = 7 := by omega
      have nil2 : (169 ∉ ([] : List Nat) ∧ 167 ∉ ([] : List Nat)) ∧ (166 ∉ ([] : List Nat) ∧ 241 ∉ ([] : List Nat)) := by decide
      rcases hw' with rfl | rfl | rfl | rfl | rfl | rfl | rfl
      · have e2 : res = cIf c g := e2
        refine r_callV2 dX8_readLine_109 zm_X8_295 RS_o rfl (Nat.le_of_ble_eq_true rfl) (Nat.le_of_ble_eq_true rfl) (C_X8_nst14 (w := 1) h ht hb (Or.inl rfl)) (fun v S9 hv => ?_)
        obtain ⟨rfl, r4, rfl, hv⟩ := hv
        rcases hv with ⟨hN, hB⟩ | ⟨hN, hx4, -⟩
        · have e4 : cIf c g = (gFl g 6, 2) := if_pos hN
          exact bad r4 [] _ hB nil2.1 nil2.2 (by rw [e2, e4]) (by rw [e2, e4]; rfl) l0
        · refine fin r4 _ hx4 (fun r5 hx5 => ?_) l0 rfl
          obtain ⟨t1, t2, t3, t4, t5⟩ := tr r5 hx5
          rw [e2]
          exact C_X8_str14 (d := d + 1) (w := 1) t1 ht t2 t3 hct hsec (Or.inl rfl) hN
      · have e2 : res = cElse c g := e2
        refine r_callV2 dX8_readLine_109 zm_X8_295 RS_o rfl (Nat.le_of_ble_eq_true rfl) (Nat.le_of_ble_eq_true rfl) (C_X8_nst2 h ht hb) (fun v S9 hv => ?_)
        obtain ⟨rfl, r4, rfl, hv⟩ := hv
        rcases hv with ⟨hN, hB⟩ | ⟨hN, hx4, -⟩
        · have e4 : cElse c g = (gFl g 6, 2) := by
            unfold cElse
            by_cases z : kdA (kdG g) g.2.1 ≠ 1
            · rw [if_pos z]
            · rw [if_neg z, if_pos (hN.resolve_left z)]
          exact bad r4 [] _ hB nil2.1 nil2.2 (by rw [e2, e4]) (by rw [e2, e4]; rfl) l0
        · refine fin r4 _ hx4 (fun r5 hx5 => ?_) l0 rfl
          obtain ⟨t1, t2, t3, t4, t5⟩ := tr r5 hx5
          rw [e2]
          exact C_X8_str23 (d := d + 1) (w := 2) t1 ht t2 t3 hct htl (Or.inl rfl) (fun _ => hN) (fun z => absurd z (by decide))
      · have e2 : res = cEndif c g := e2
        refine r_callV2 dX8_readLine_109 zm_X8_295 RS_o rfl (Nat.le_of_ble_eq_true rfl) (Nat.le_of_ble_eq_true rfl) (C_X8_nst3 (w := 3) h ht hb (Or.inl rfl)) (fun v S9 hv => ?_)
        obtain ⟨rfl, r4, rfl, hv⟩ := hv
        rcases hv with ⟨hN, hB⟩ | ⟨hN, hx4, -⟩
        · have hN' : kdA (kdG g) g.2.1 ≠ 1 ∧ kdA (kdG g) g.2.1 ≠ 2 := by
            rcases hN with z | z | z | z
            · exact z.2
            · exact absurd z (by decide)
            · exact absurd z (by decide)
            · exact absurd z.1 (by decide)
          have e4 : cEndif c g = (gFl g 6, 2) := if_pos hN'
          exact bad r4 [] _ hB nil2.1 nil2.2 (by rw [e2, e4]) (by rw [e2, e4]; rfl) l0
        · refine fin r4 _ hx4 (fun r5 hx5 => ?_) l0 rfl
          obtain ⟨t1, t2, t3, t4, t5⟩ := tr r5 hx5
          rw [e2]
          exact C_X8_str23 (d := d + 1) (w := 3) t1 ht t2 t3 hct htl (Or.inr rfl) (fun z => absurd z (by decide)) (fun _ z => hN (Or.inl ⟨rfl, z⟩))
      · have e2 : res = cRept c g := e2
        refine r_callV2 dX8_readLine_109 zm_X8_295 RS_o rfl (Nat.le_of_ble_eq_true rfl) (Nat.le_of_ble_eq_true rfl) (C_X8_nst14 (w := 4) h ht hb (Or.inr rfl)) (fun v S9 hv => ?_)
        obtain ⟨rfl, r4, rfl, hv⟩ := hv
        rcases hv with ⟨hN, hB⟩ | ⟨hN, hx4, -⟩
        · have e4 : cRept c g = (gFl g 6, 2) := if_pos hN
          exact bad r4 [] _ hB nil2.1 nil2.2 (by rw [e2, e4]) (by rw [e2, e4]; rfl) l0
        · refine fin r4 _ hx4 (fun r5 hx5 => ?_) l0 rfl
          obtain ⟨t1, t2, t3, t4, t5⟩ := tr r5 hx5
          rw [e2]
          exact C_X8_str14 (d := d + 1) (w := 4) t1 ht t2 t3 hct hsec (Or.inr rfl) hN
      · have e2 : res = (gFl g 6, 2) := e2
        refine r_callV2 dX8_readLine_109 zm_X8_295 RS_o rfl (Nat.le_of_ble_eq_true rfl) (Nat.le_of_ble_eq_true rfl) (C_X8_nst3 (w := 5) h ht hb (Or.inr (Or.inl rfl))) (fun v S9 hv => ?_)
        obtain ⟨rfl, r4, rfl, hv⟩ := hv
        rcases hv with ⟨hN, hB⟩ | ⟨hN, -⟩
        · exact bad r4 [] _ hB nil2.1 nil2.2 (by rw [e2]) (by rw [e2]; rfl) l0
        · exact absurd (Or.inr (Or.inl rfl)) hN
      · have e2 : res = cDef c g ce := e2
        refine r_callV2 dX8_readLine_109 zm_X8_295 RS_o rfl (Nat.le_of_ble_eq_true rfl) (Nat.le_of_ble_eq_true rfl) (C_X8_nst3 (w := 6) h ht hb (Or.inr (Or.inr (Or.inr rfl)))) (fun v S9 hv => ?_)
        obtain ⟨rfl, r4, rfl, hv⟩ := hv
        rcases hv with ⟨hN, hB⟩ | ⟨hN, hx4, -⟩
        · have hN' : (iL g).isSome = true := by
            rcases hN with z | z | z | z
            · exact absurd z.1 (by decide)
            · exact absurd z (by decide)
            · exact absurd z (by decide)
            · exact z.2
          have e4 : cDef c g ce = (gFl g 6, 2) := if_pos hN'
          exact bad r4 [] _ hB nil2.1 nil2.2 (by rw [e2, e4]) (by rw [e2, e4]; rfl) l0
        · have hil : iL g = none := by
            cases hj : iL g with
            | none => rfl
            | some j => exact absurd (Or.inr (Or.inr (Or.inr ⟨rfl, by rw [hj]; rfl⟩))) hN
          refine fin r4 _ hx4 (fun r5 hx5 => ?_) l0 rfl
          obtain ⟨t1, t2, t3, t4, t5⟩ := tr r5 hx5
          rw [e2]
          exact C_X8_str6 ce t1 ht t2 hil t4 hl t3 hts hct hrd t5 hls hp1 (hxs hil) (hnm hil)
      · have e2 : res = (gFl g 6, 2) := e2
        refine r_callV2 dX8_readLine_109 zm_X8_295 RS_o rfl (Nat.le_of_ble_eq_true rfl) (Nat.le_of_ble_eq_true rfl) (C_X8_nst3 (w := 7) h ht hb (Or.inr (Or.inr (Or.inl rfl)))) (fun v S9 hv => ?_)
        obtain ⟨rfl, r4, rfl, hv⟩ := hv
        rcases hv with ⟨hN, hB⟩ | ⟨hN, -⟩
        · exact bad r4 [] _ hB nil2.1 nil2.2 (by rw [e2]) (by rw [e2]; rfl) l0
        · exact absurd (Or.inr (Or.inr (Or.inl rfl))) hN
  · rw [decide_eq_false q1]
    have e1 : res = (g, 1) := by rw [← hres]; exact cRun_1 (by rw [hct]; exact q1)
    refine r_if_eq_t (tgt := 75) dX8_readLine_60 (by decide) (rfl) ?_
    refine r_ic (-1) dX8_readLine_75 rfl ?_
    refine r_istore_n dX8_readLine_76 (by decide) (by first | assumption | exact z_c1_i (by first | rfl | assumption) | exact z_c1_r (by first | rfl | assumption) | exact z_c1_n (by first | rfl | assumption) | exact z_c1_c (by first | rfl | assumption) | exact z_c1_0 (by first | rfl | assumption)) ?_
    refine r_iload_n dX8_readLine_77 (by first | rfl | assumption) ?_
    refine r_ic (-1) dX8_readLine_78 rfl ?_
    refine r_icmp_ne_f (tgt := 90) dX8_readLine_79 (by decide) (rfl) ?_
    refine r_aload_n dX8_readLine_82 (by first | rfl | assumption) ?_
    refine r_ic (0) dX8_readLine_83 rfl ?_
    refine r_callV1 dX8_readLine_84 zm_X8_283 RS_o rfl (Nat.le_of_ble_eq_true rfl) (Nat.le_of_ble_eq_true rfl) (C_X8_macroNamed (t := 0) h.1 hL hl hT hMS (by decide) hse0) (fun v S9 hv => ?_)
    obtain ⟨rfl, hv⟩ := hv
    rw [if_neg q1] at hv
    have hv : v = some (.int (-1)) := hv
    subst hv
    refine r_goto (tgt := 91) dX8_readLine_87 (by decide) ?_
    refine r_istore_n dX8_readLine_91 (by decide) (by first | assumption | exact z_c1_i (by first | rfl | assumption) | exact z_c1_r (by first | rfl | assumption) | exact z_c1_n (by first | rfl | assumption) | exact z_c1_c (by first | rfl | assumption) | exact z_c1_0 (by first | rfl | assumption)) ?_
    refine r_iload_n dX8_readLine_92 (by first | rfl | assumption) ?_
    refine r_if_lt_t (tgt := 99) dX8_readLine_93 (by decide) (show (-1 : Int32) < 0 by decide) ?_
    refine r_iload_n dX8_readLine_99 (by first | rfl | assumption) ?_
    refine r_ic (-1) dX8_readLine_100 rfl ?_
    refine r_icmp_ne_f (tgt := 106) dX8_readLine_101 (by decide) (rfl) ?_
    exact l104 e1 _
end
