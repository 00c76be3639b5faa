section
variable {d : Nat} {S : zS} {E : zE} {lB lI : List Nat} {B C N B0 C0 : Nat} {Z : Nat → zC} {c : zD} {g : zG}
/-- behind a line -/
def lnP (Z : Nat → zC) (N : Nat) (c : zD) (g : zG) (B0 C0 : Nat) (v : Option Value) (S1 : zS) : Prop := ∃ c1 g1 out, lnR c g c1 g1 out ∧ v = some (.int (nI out)) ∧ XJ S1 Z N c1 g1 B0 C0
theorem cRun_1 {ce : Nat × Nat × Nat} (h : (c.2.2.2.1.getD 0 t0).1 ≠ 1) : cRun c g ce = (g, 1) := if_pos h
theorem cRun_2 {ce : Nat × Nat × Nat} (h : (c.2.2.2.1.getD 0 t0).1 = 1) (h2 : w7 c g ≠ 0) : cRun c g ce = cObey c g (w7 c g) ce := (if_neg (fun z => z h)).trans (if_pos h2)
theorem cRun_3 {ce : Nat × Nat × Nat} (h : (c.2.2.2.1.getD 0 t0).1 = 1) (h2 : w7 c g = 0) : cRun c g ce = match mFd c g 0 with
  | none => (g, 1)
  | some q => cMac c g q := (if_neg (fun z => z h)).trans (if_neg (fun z => z h2))
theorem mFd_mem {i : Nat} {q : zMa} (h : mFd c g i = some q) : q ∈ g.2.2.2.1 := List.mem_of_find?_eq_some h
set_option maxRecDepth 10000 in
set_option maxHeartbeats 2000000 in
/-- from the tokens on -/
theorem C_X7_run {L : Nat → Option Value} {P : Option Value → zS → Prop} (h : XI S E lB lI B C Z N c g) (ho : gOk c g) (hcap : c.2.2.2.2.2.2.2.2 ≤ 767) (hB : B + 4 * (768 - c.2.2.2.2.2.2.2.2) ≤ B0 + kS g.2.2.2.1) (hC : C + (768 - c.2.2.2.2.2.2.2.2) ≤ C0 + kC g.2.2.2.1) (htk : tOk c g) (hpo : 1 ≤ g.1.1 ∧ g.1.1 ≤ cnt c) (hms : ∀ q ∈ g.2.2.2.1, q.2.1.1 ≤ 65536 ∧ q.2.1.2.1 ≤ 65536) (hnm : g.2.2.2.1.length < 512) (l0 : L 0 = some (.ref 1)) (l1 : ∃ x, L 1 = some (.int x)) (l2 : z_c1 (L 2)) (hP : ∀ v S1, stM Z N c B0 C0 (cRun c g) v S1 → P v S1) : Ru (d + 10) mX7_readLine 90 L [] S (z_en mX7_readLine P) := by
  have hx := h.x0
  have ht := h.t0
  have htl := h.tl
  have kr := (h.1.b h.2.2.1.2.2.2.1).1
  have krl := h.1.bl h.2.2.1.2.2.2.1
  obtain ⟨hk, hst, hen⟩ := h.2.2.1.2.2.2.2.2.2.2.1
  obtain ⟨x1, l1⟩ := l1
  refine r_aload_n dX7_readLine_90 (by first | rfl | assumption) ?_
  refine r_getf dX7_readLine_91 zf_X7_30 (by assumption) rfl ?_
  refine r_ic (0) dX7_readLine_94 rfl ?_
  refine r_callV1 dX7_readLine_95 zm_X7_139 (by assumption) rfl (Nat.le_of_ble_eq_true rfl) (Nat.le_of_ble_eq_true rfl) (C_X6_kind (x := 0) h.t0 h.1 hk) (fun v S9 hv => ?_)
  obtain ⟨hS9, rfl⟩ := hv
  subst hS9
  rw [show iAt (c.2.2.2.1.map fun q => q.1) 0 = (c.2.2.2.1.getD 0 t0).1 from iAt_k (i := 0) (by omega) (by omega)]
  refine r_ic (1) dX7_readLine_98 rfl ?_
  by_cases q1 : (c.2.2.2.1.getD 0 t0).1 = 1
  · refine r_icmp_eq_t (tgt := 104) dX7_readLine_99 (by decide) (q1) ?_
    have hi : 0 < c.2.2.2.1.length := by
      rcases Nat.eq_zero_or_pos c.2.2.2.1.length with z | z
      · rw [List.length_eq_zero_iff.mp z] at q1
        exact absurd q1 (by decide)
      · exact z
    have hse := htk 0 hi
    have e1 : iAt (c.2.2.2.1.map fun q => nI q.2.1) 0 = nI (c.2.2.2.1.getD 0 t0).2.1 := iAt_mapf (i := 0) (by omega) (getD_some hi)
    have e2 : iAt (c.2.2.2.1.map fun q => nI q.2.2.1) 0 = nI (c.2.2.2.1.getD 0 t0).2.2.1 := iAt_mapf (i := 0) (by omega) (getD_some hi)
    refine r_aload_n dX7_readLine_104 (by first | rfl | assumption) ?_
    refine r_getf dX7_readLine_105 zf_X7_21 (by assumption) rfl ?_
    refine r_aload_n dX7_readLine_108 (by first | rfl | assumption) ?_
    refine r_getf dX7_readLine_109 zf_X7_30 (by assumption) rfl ?_
    refine r_ic (0) dX7_readLine_112 rfl ?_
    refine r_callV1 dX7_readLine_113 zm_X7_142 (by assumption) rfl (Nat.le_of_ble_eq_true rfl) (Nat.le_of_ble_eq_true rfl) (C_X6_start (x := 0) ht h.1 hst) (fun v S9 hv => ?_)
    obtain ⟨hS9, rfl⟩ := hv
    subst hS9
    rw [e1]
    refine r_aload_n dX7_readLine_116 (by first | rfl | assumption) ?_
    refine r_getf dX7_readLine_117 zf_X7_30 (by assumption) rfl ?_
    refine r_ic (0) dX7_readLine_120 rfl ?_
    refine r_callV1 dX7_readLine_121 zm_X7_145 (by assumption) rfl (Nat.le_of_ble_eq_true rfl) (Nat.le_of_ble_eq_true rfl) (C_X6_end (x := 0) ht h.1 hen) (fun v S9 hv => ?_)
    obtain ⟨hS9, rfl⟩ := hv
    subst hS9
    rw [e2]
    refine r_callS3 dX7_readLine_124 zm_X7_148 (Nat.le_of_ble_eq_true rfl) (Nat.le_of_ble_eq_true rfl) (C_X7_wordIn kr hse.1 hse.2) (fun v S9 hv => ?_)
    obtain ⟨hS9, rfl⟩ := hv
    subst hS9
    have hw : w7 c g < 8 := wd_lt _
    show Ru _ _ _ _ [.int (nI (w7 c g))] _ _
    refine r_istore_n dX7_readLine_127 (by decide) l2 ?_
    refine r_iload_n dX7_readLine_128 (by first | rfl | assumption) ?_
    by_cases q2 : w7 c g = 0
    · refine r_if_eq_t (tgt := 138) dX7_readLine_129 (by decide) (by rw [q2]; rfl) ?_
      refine r_aload_n dX7_readLine_138 (by first | rfl | assumption) ?_
      refine r_ic (0) dX7_readLine_139 rfl ?_
      refine r_callV1 dX7_readLine_140 zm_X7_155 (by assumption) rfl (Nat.le_of_ble_eq_true rfl) (Nat.le_of_ble_eq_true rfl) (C_X7_macroNamed (i := 0) h hi ⟨hse.1, by omega⟩ hms) (fun v S9 hv => ?_)
      obtain ⟨hS9, rfl⟩ := hv
      subst hS9
      cases hq : mFd c g 0 with
      | none =>
        have e : ∀ ce, cRun c g ce = (g, 1) := fun ce => by rw [cRun_3 q1 q2, hq]
        rw [show mV none = .null from rfl]
        refine r_astoreN dX7_readLine_143 (by decide) (by first | exact z_c1_i (by first | rfl | assumption) | exact z_c1_r (by first | rfl | assumption) | exact z_c1_n (by first | rfl | assumption) | exact z_c1_c (by first | rfl | assumption) | exact z_c1_0 (by first | rfl | assumption)) ?_
        refine r_aloadN dX7_readLine_145 (by first | rfl | assumption) ?_
        refine r_ifnonnullN dX7_readLine_147 ?_
        refine r_ic (1) dX7_readLine_150 rfl ?_
        refine r_goto (tgt := 160) dX7_readLine_151 (by decide) ?_
        refine r_ireturn dX7_readLine_160 _ rfl rfl (hP _ _ (stM_of hcap hB hC (r := (g, 1)) ⟨rfl, E, h⟩ e rfl))
      | some z =>
        have e : ∀ ce, cRun c g ce = cMac c g z := fun ce => by rw [cRun_3 q1 q2, hq]
        rw [show mV (some z) = .ref z.1 from rfl]
        refine r_astore dX7_readLine_143 (by decide) (by first | exact z_c1_i (by first | rfl | assumption) | exact z_c1_r (by first | rfl | assumption) | exact z_c1_n (by first | rfl | assumption) | exact z_c1_c (by first | rfl | assumption) | exact z_c1_0 (by first | rfl | assumption)) ?_
        refine r_aload dX7_readLine_145 (by first | rfl | assumption) ?_
        refine r_ifnonnull (tgt := 154) dX7_readLine_147 (by decide) ?_
        refine r_aload_n dX7_readLine_154 (by first | rfl | assumption) ?_
        refine r_aload dX7_readLine_155 (by first | rfl | assumption) ?_
        refine r_callV1 dX7_readLine_157 zm_X7_159 (by assumption) rfl (Nat.le_of_ble_eq_true rfl) (Nat.le_of_ble_eq_true rfl) (C_X7_readMacroLines h (mFd_mem hq)) (fun v S8 hv => ?_)
        have hv1 := hv.1
        subst hv1
        refine r_ireturn dX7_readLine_160 _ rfl rfl (hP _ _ (stM_of hcap hB hC hv e cMac_m))
    · refine r_if_eq_f (tgt := 138) dX7_readLine_129 (by decide) (fun z => q2 ((nI_eq (b := 0) (by omega) (by decide)).mp z)) ?_
      refine r_aload_n dX7_readLine_132 (by first | rfl | assumption) ?_
      refine r_iload_n dX7_readLine_133 (by first | rfl | assumption) ?_
      refine r_callV1 dX7_readLine_134 zm_X7_152 (by assumption) rfl (Nat.le_of_ble_eq_true rfl) (Nat.le_of_ble_eq_true rfl) (C_X7_obey hw q2 h ho hcap hB hC htk hpo hms hnm) (fun v S8 hv => ?_)
      obtain ⟨ce, la, rfl, h4⟩ := hv
      refine r_ireturn dX7_readLine_137 _ rfl rfl (hP _ _ ⟨ce, la, by rw [cRun_2 q1 q2], by rw [cRun_2 q1 q2]; exact h4⟩)
  · refine r_icmp_eq_f (tgt := 104) dX7_readLine_99 (by decide) (q1) ?_
    have e : ∀ ce, cRun c g ce = (g, 1) := fun ce => cRun_1 q1
    refine r_ic (1) dX7_readLine_102 rfl ?_
    refine r_ireturn dX7_readLine_103 _ rfl rfl (hP _ _ (stM_of hcap hB hC (r := (g, 1)) ⟨rfl, E, h⟩ e rfl))
set_option maxRecDepth 10000 in
set_option maxHeartbeats 2000000 in
theorem C_X7_readLine (h : XI S E lB lI B C Z N c g) (hi : g.1.1 < cnt c) (ho : gOk c (gLn c g)) (hp : pOk c g) (hln : g.1.2.1 ≤ 65536) (hcap : c.2.2.2.2.2.2.2.2 ≤ 767) (hB : B + 4 * (768 - c.2.2.2.2.2.2.2.2) ≤ B0 + kS g.2.2.2.1) (hC : C + (768 - c.2.2.2.2.2.2.2.2) ≤ C0 + kC g.2.2.2.1) (hnm : g.2.2.2.1.length < 512) : Rc (d + 10) mX7_readLine [.ref 1] S (lnP Z N c g B0 C0) := by
  have hx := h.x0
  have hcn := h.cn
  refine Rc.of ?_
  refine r_aload_n dX7_readLine_0 (by first | rfl | assumption) ?_
  refine r_getf dX7_readLine_1 zf_X7_69 (by assumption) rfl ?_
  refine r_istore_n dX7_readLine_4 (by decide) (by first | exact z_c1_i (by first | rfl | assumption) | exact z_c1_r (by first | rfl | assumption) | exact z_c1_n (by first | rfl | assumption) | exact z_c1_c (by first | rfl | assumption) | exact z_c1_0 (by first | rfl | assumption)) ?_
  refine r_aload_n dX7_readLine_5 (by first | rfl | assumption) ?_
  refine r_dup dX7_readLine_6 rfl ?_
  refine r_getf dX7_readLine_7 zf_X7_69 (by assumption) rfl ?_
  refine r_ic (1) dX7_readLine_10 rfl ?_
  refine r_iadd dX7_readLine_11 ?_
  rw [nI_1]
  refine r_putf dX7_readLine_12 zf_X7_69 (by assumption) (Nat.le_of_ble_eq_true rfl) ⟨rfl, rfl⟩ ?_
  have h1 := h.pos (p := g.1.1 + 1)
  show Ru _ _ _ _ _ (z_put S 1 (xcl c (gPos g (g.1.1 + 1)))) _
  generalize z_put S 1 (xcl c (gPos g (g.1.1 + 1))) = S1 at h1 ⊢
  have hx1 := h1.x0
  have hn1 := h1.n0.1
  refine r_aload_n dX7_readLine_15 (by first | rfl | assumption) ?_
  refine r_getf dX7_readLine_16 zf_X7_37 (by assumption) rfl ?_
  refine r_callV0 dX7_readLine_19 zm_X7_117 (by assumption) rfl (Nat.le_of_ble_eq_true rfl) (Nat.le_of_ble_eq_true rfl) (C_X7_lines h1) (fun v S9 hv => ?_)
  obtain ⟨hS9, rfl⟩ := hv
  subst hS9
  rw [show iL (gPos g (g.1.1 + 1)) = iL g from rfl]
  have l41 : ∀ (S2 : zS) (L : Nat → Option Value), XI S2 E lB lI B C Z N c ((g.1.1 + 1, g.1.2.1, g.1.2.2.1, (gLn c g).1.2.2.2.1, g.1.2.2.2.2), g.2) → L 0 = some (.ref 1) → L 1 = some (.int (nI g.1.1)) → z_c1 (L 2) → Ru (d + 10) mX7_readLine 41 L [] S2 (z_en mX7_readLine (lnP Z N c g B0 C0)) := by
    intro S2 L h2 l0 l1 l2
    have hx2 := h2.x0
    refine r_aload_n dX7_readLine_41 (by first | rfl | assumption) ?_
    refine r_dup dX7_readLine_42 rfl ?_
    refine r_getf dX7_readLine_43 zf_X7_73 (by assumption) rfl ?_
    refine r_ic (1) dX7_readLine_46 rfl ?_
    refine r_iadd dX7_readLine_47 ?_
    rw [nI_1]
    refine r_putf dX7_readLine_48 zf_X7_73 (by assumption) (Nat.le_of_ble_eq_true rfl) ⟨rfl, rfl⟩ ?_
    have h3 : XI (z_put S2 1 (xcl c (gLn c g))) E lB lI B C Z N c (gLn c g) := h2.x (rp := c.2.2.2.2.2.1) (sc := (gLn c g).1)
    show Ru _ _ _ _ _ (z_put S2 1 (xcl c (gLn c g))) _
    generalize z_put S2 1 (xcl c (gLn c g)) = S3 at h3 ⊢
    have hx3 := h3.x0
    refine r_aload_n dX7_readLine_51 (by first | rfl | assumption) ?_
    refine r_getf dX7_readLine_52 zf_X7_73 (by assumption) rfl ?_
    refine r_ldc dX7_readLine_55 zk_X7_48 ?_
    have l68 : ∀ (S4 : zS) (E4 : zE) (ys : List Nat) (L : Nat → Option Value), XI S4 E4 lB lI B C Z N c (gRd (gLn c g) ys) → (65536 < g.1.2.1 + 1 ∧ ys = g.2.2.2.2 ∨ g.1.2.1 + 1 ≤ 65536 ∧ fil c g g.1.1 = none) → L 0 = some (.ref 1) → Ru (d + 10) mX7_readLine 68 L [] S4 (z_en mX7_readLine (lnP Z N c g B0 C0)) := by
      intro S4 E4 ys L h4 hq l0
      have hx4 := h4.x0
      refine r_aload_n dX7_readLine_68 (by first | rfl | assumption) ?_
      refine r_ic (5) dX7_readLine_69 rfl ?_
      refine r_callV1 dX7_readLine_70 zm_X7_132 (by assumption) rfl (Nat.le_of_ble_eq_true rfl) (Nat.le_of_ble_eq_true rfl) (C_X7_tell (k := 5) h4) (fun v S8 hv => ?_)
      obtain ⟨rfl, h5⟩ := hv
      refine r_ireturn dX7_readLine_73 _ rfl rfl ⟨c, gFl (gRd (gLn c g) ys) 5, 2, hq.elim (fun z => Or.inl ⟨z.1, by rw [z.2]; rfl, rfl, rfl⟩) (fun z => Or.inr (Or.inl ⟨z.1, z.2, ⟨ys, rfl⟩, rfl, rfl⟩)), rfl, E4, lB, lI, B, C, h5, hcap, hB, hC⟩
    by_cases q1 : 65536 < g.1.2.1 + 1
    · refine r_icmp_gt_t (tgt := 68) dX7_readLine_57 (by decide) (show nI 65536 < nI (g.1.2.1 + 1) from nI_lt q1 (by omega)) ?_
      exact l68 _ E g.2.2.2.2 _ h3 (Or.inl ⟨q1, rfl⟩) l0
    refine r_icmp_gt_f (tgt := 68) dX7_readLine_57 (by decide) (show ¬ nI 65536 < nI (g.1.2.1 + 1) from fun z => absurd z (Int32.not_lt.mpr (nI_le (by omega) (by omega)))) ?_
    refine r_aload_n dX7_readLine_60 (by first | rfl | assumption) ?_
    refine r_iload_n dX7_readLine_61 (by first | rfl | assumption) ?_
    refine r_callV1 dX7_readLine_62 zm_X7_129 (by assumption) rfl (Nat.le_of_ble_eq_true rfl) (Nat.le_of_ble_eq_true rfl) (C_X7_fill (i := g.1.1) h3 hi hp) (fun v S4 hv => ?_)
    obtain ⟨rfl, E4, ys, h4, hy⟩ := hv
    have ef : fil c (gLn c g) g.1.1 = fil c g g.1.1 := rfl
    rw [ef] at hy ⊢
    cases hf : fil c g g.1.1 with
    | none =>
      refine r_if_ne_f (tgt := 74) dX7_readLine_65 (by decide) (rfl) ?_
      exact l68 _ E4 ys _ h4 (Or.inr ⟨by omega, hf⟩) l0
    | some r =>
      have hy := hy r hf
      subst hy
      refine r_if_ne_t (tgt := 74) dX7_readLine_65 (by decide) (show ¬ (1 : Int32) = 0 by decide) ?_
      have hx4 := h4.x0
      have ht4 := h4.t0
      have krl := h4.1.bl h4.2.2.1.2.2.2.1
      obtain ⟨hk, hst, hen⟩ := h4.2.2.1.2.2.2.2.2.2.2.1
      have hl0 := h4.l0
      refine r_aload_n dX7_readLine_74 (by first | rfl | assumption) ?_
      refine r_getf dX7_readLine_75 zf_X7_30 (by assumption) rfl ?_
      refine r_callV0 dX7_readLine_78 zm_X7_135 (by assumption) rfl (Nat.le_of_ble_eq_true rfl) (Nat.le_of_ble_eq_true rfl) (V_X6_takeAll h4.t0 (by omega) h4.1 h4.2.2.1.2.2.2.1 hk hst hen (by decide) (by decide) (by decide) (by omega)) (fun v S5 hv => ?_)
      obtain ⟨ts, stop, val, sec, ht5, ⟨E5, hP5, e5, e6⟩, hv⟩ := hv
      have h5 : XI S5 E5 lB lI B C Z N (cTk c ts (stop, val, sec)) (gRd (gLn c g) ys) := h4.tk (sv := (stop, val, sec)) hP5 ht5 e5 e6
      have hx5 := h5.x0
      rcases hv with ⟨hv1, rfl⟩ | ⟨hv1, rfl, hv2⟩
      · refine r_if_ne_f (tgt := 90) dX7_readLine_81 (by decide) (rfl) ?_
        refine r_aload_n dX7_readLine_84 (by first | rfl | assumption) ?_
        refine r_ic (1) dX7_readLine_85 rfl ?_
        refine r_callV1 dX7_readLine_86 zm_X7_132 (by assumption) rfl (Nat.le_of_ble_eq_true rfl) (Nat.le_of_ble_eq_true rfl) (C_X7_tell (k := 1) h5) (fun v S8 hv => ?_)
        obtain ⟨rfl, h6⟩ := hv
        refine r_ireturn dX7_readLine_89 _ rfl rfl ⟨cTk c ts (stop, val, sec), gFl (gRd (gLn c g) ys) 1, 2, Or.inr (Or.inr (Or.inl ⟨by omega, ys, hf, hv1, rfl, rfl, ts, _, rfl⟩)), rfl, E5, lB, lI, B, C, h6, hcap, hB, hC⟩
      · refine r_if_ne_t (tgt := 90) dX7_readLine_81 (by decide) (by decide) ?_
        refine C_X7_run h5 ho hcap hB hC (tOk_of h5 hv1) ⟨Nat.succ_le_succ (Nat.zero_le _), hi⟩ (fun q hq => ⟨(hp.1 q hq).1, (hp.1 q hq).2.1⟩) hnm l0 ⟨_, l1⟩ l2 ?_
        rintro v S6 ⟨ce, la, rfl, h6⟩
        exact ⟨cLa (cTk c ts (stop, val, sec)) la, _, _, Or.inr (Or.inr (Or.inr ⟨by omega, ys, ts, (stop, val, sec), ce, la, hf, hv1, hv2, rfl, rfl⟩)), rfl, h6⟩
  cases hil : iL g with
  | none =>
    have et : (gLn c g).1.2.2.2.1 = g.1.1 + 1 := by
      show (match iL g with
        | none => g.1.1 + 1
        | some j => (g.2.2.1 j).2.1.2.2.2) = _
      rw [hil]
    rw [show oV ptN none = .null from rfl]
    refine r_astore_nN dX7_readLine_22 (by decide) (by first | exact z_c1_i (by first | rfl | assumption) | exact z_c1_r (by first | rfl | assumption) | exact z_c1_n (by first | rfl | assumption) | exact z_c1_c (by first | rfl | assumption) | exact z_c1_0 (by first | rfl | assumption)) ?_
    refine r_aload_n dX7_readLine_23 (by first | rfl | assumption) ?_
    refine r_aload_nN dX7_readLine_24 (by first | rfl | assumption) ?_
    refine r_ifnonnullN dX7_readLine_25 ?_
    refine r_iload_n dX7_readLine_28 (by first | rfl | assumption) ?_
    refine r_ic (1) dX7_readLine_29 rfl ?_
    refine r_iadd dX7_readLine_30 ?_
    rw [nI_1]
    refine r_goto (tgt := 38) dX7_readLine_31 (by decide) ?_
    refine r_putf dX7_readLine_38 zf_X7_79 (by assumption) (Nat.le_of_ble_eq_true rfl) ⟨rfl, rfl⟩ ?_
    refine l41 _ _ ?_ rfl rfl (z_c1_n (L := z_s1 _ 2 _) (i := 2) rfl)
    rw [et]
    exact h1.x (rp := c.2.2.2.2.2.1) (sc := (g.1.1 + 1, g.1.2.1, g.1.2.2.1, g.1.1 + 1, g.1.2.2.2.2))
  | some j =>
    have hj := inL_lt _ _ hil
    have hsz := h.sz
    have et : (gLn c g).1.2.2.2.1 = (g.2.2.1 j).2.1.2.2.2 := by
      show (match iL g with
        | none => g.1.1 + 1
        | some j => (g.2.2.1 j).2.1.2.2.2) = _
      rw [hil]
    have hp1 : S9.2.2 (ptN j) = pcl (g.2.2.1 j) j := h1.p0 j (by omega)
    rw [pcl_eq] at hp1
    rw [show oV ptN (some j) = .ref (ptN j) from rfl]
    refine r_astore_n dX7_readLine_22 (by decide) (by first | exact z_c1_i (by first | rfl | assumption) | exact z_c1_r (by first | rfl | assumption) | exact z_c1_n (by first | rfl | assumption) | exact z_c1_c (by first | rfl | assumption) | exact z_c1_0 (by first | rfl | assumption)) ?_
    refine r_aload_n dX7_readLine_23 (by first | rfl | assumption) ?_
    refine r_aload_n dX7_readLine_24 (by first | rfl | assumption) ?_
    refine r_ifnonnull (tgt := 34) dX7_readLine_25 (by decide) ?_
    refine r_aload_n dX7_readLine_34 (by first | rfl | assumption) ?_
    refine r_getf dX7_readLine_35 zf_X7_126 (by assumption) rfl ?_
    refine r_putf dX7_readLine_38 zf_X7_79 (by assumption) (Nat.le_of_ble_eq_true rfl) ⟨rfl, rfl⟩ ?_
    refine l41 _ _ ?_ rfl rfl (z_c1_r (L := z_s1 _ 2 _) (i := 2) rfl)
    rw [et]
    exact h1.x (rp := c.2.2.2.2.2.1) (sc := (g.1.1 + 1, g.1.2.1, g.1.2.2.1, (g.2.2.1 j).2.1.2.2.2, g.1.2.2.2.2))
end
