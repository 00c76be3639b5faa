/-! THE READER: next -/
def cRp (c : zD) (rp : Bool × Bool) : zD := (c.1, c.2.1, c.2.2.1, c.2.2.2.1, c.2.2.2.2.1, rp, c.2.2.2.2.2.2)
def gTo (g : zG) (t : Nat) : zG := ((g.1.1, g.1.2.1, g.1.2.2.1, t, g.1.2.2.2.2), g.2)
/-- the line that was read is one -/
def rB (g : zG) : Prop := g.2.2.2.2.length ≤ 1024 ∧ ∀ i, i < g.2.2.2.2.length → g.2.2.2.2.getD i 0 < 256
def rnR : Nat → zD → zG → zD → zG → Nat → Prop
  | 0, _, _, _, _, _ => False
  | n + 1, c, g, c1, g1, out => ∃ c2 g2 o, stR c g c2 g2 o ∧ rB g2 ∧ ((o ≠ 0 ∧ c1 = c2 ∧ g1 = g2 ∧ out = o) ∨ (o = 0 ∧ rnR n c2 g2 c1 g1 out))
def rn (c : zD) (g : zG) (c1 : zD) (g1 : zG) (out : Nat) : Prop := ∃ n, rnR n c g c1 g1 out
/-- behind next: it returns, or it comes to where it throws -/
def nxQ (Z : Nat → zC) (N : Nat) (c : zD) (g : zG) (B0 C0 : Nat) (pc : Nat) (st : List Value) (S1 : zS) : Prop :=
  (c.2.2.2.2.2.1.1 = false ∧ z_en mX7_next (fun v S2 => v = some (.int (-1)) ∧ XJ S2 Z N (cRp c (false, false)) g B0 C0) pc st S1) ∨
  (c.2.2.2.2.2.1.1 = true ∧ ∃ c1 g1, rn (cRp c (true, false)) g c1 g1 1 ∧ WF c1 g1 ∧ z_en mX7_next (fun v S2 => v = some (.int (nI g1.2.2.2.2.length)) ∧ XJ S2 Z N (cRp c1 (true, true)) g1 B0 C0) pc st S1) ∨
  (c.2.2.2.2.2.1.1 = true ∧ ∃ c1 g1, rn (cRp c (true, false)) g c1 g1 2 ∧ ((g1.1.2.2.2.2 ≠ 0 ∧ pc = 105 ∧ st = [] ∧ XJ S1 Z N (cRp c1 (false, false)) (gSz g1 0) B0 C0) ∨ (g1.1.2.2.2.2 = 0 ∧ z_en mX7_next (fun v S2 => v = some (.int (-1)) ∧ XJ S2 Z N (cRp c1 (false, false)) (gTo (gSz g1 0) 0) B0 C0) pc st S1)))
theorem Ru.mono {d : Nat} {M : zM} {pc : Nat} {L : Nat → Option Value} {st : List Value} {S : zS} {Q1 Q2 : Nat → List Value → zS → Prop} (k : Ru d M pc L st S Q1) (h : ∀ pc st S, Q1 pc st S → Q2 pc st S) : Ru d M pc L st S Q2 := fun lv hl => let ⟨o, h1, h2⟩ := k lv hl; ⟨o, h1, h _ _ _ h2⟩
theorem lnA_len {xs : List Nat} : ∀ (k i st : Nat), i + k = xs.length → (lnA xs k i st).length ≤ k + (if st < i then 1 else 0)
  | 0, i, st, h => by
    have h : i = xs.length := h
    show (if st < xs.length then [(st, xs.length)] else []).length ≤ _
    rw [h]
    split <;> exact Nat.le_refl _
  | k + 1, i, st, h => by
    show (if xs.getD i 0 = 10 then (st, i) :: lnA xs k (i + 1) (i + 1) else lnA xs k (i + 1) st).length ≤ _
    split
    · have := lnA_len (xs := xs) k (i + 1) (i + 1) (by omega)
      rw [if_neg (Nat.lt_irrefl _)] at this
      rw [List.length_cons]
      omega
    · have := lnA_len (xs := xs) k (i + 1) st (by omega)
      split at this <;> omega
theorem cnt_len {c : zD} : cnt c ≤ c.2.1.length := by
  have := lnA_len (xs := c.2.1) c.2.1.length 0 0 (Nat.zero_add _)
  exact this
section
variable {d : Nat} {S : zS} {E : zE} {lB lI : List Nat} {B C N B0 C0 : Nat} {Z : Nat → zC} {c : zD} {g : zG}
theorem cRun_fl {ce : Nat × Nat × Nat} (h : g.1.2.2.2.2 ≤ 7) : (cRun c g ce).1.1.2.2.2.2 ≤ 7 := by
  unfold cRun
  split
  · exact h
  split
  · unfold cObey
    repeat' split
    · unfold cIf; repeat' split
      all_goals first | exact h | exact Nat.le_of_ble_eq_true rfl
    · unfold cElse; repeat' split
      all_goals first | exact h | exact Nat.le_of_ble_eq_true rfl
    · unfold cEndif; repeat' split
      all_goals first | exact h | exact Nat.le_of_ble_eq_true rfl
    · unfold cRept; repeat' split
      all_goals first | exact h | exact Nat.le_of_ble_eq_true rfl
    · unfold cDef; repeat' split
      all_goals first | exact h | exact Nat.le_of_ble_eq_true rfl
    · exact Nat.le_of_ble_eq_true rfl
  split
  · exact h
  · unfold cMac; repeat' split
    all_goals first | exact h | exact Nat.le_of_ble_eq_true rfl
theorem stR_fl {c1 : zD} {g1 : zG} {out : Nat} (hs : stR c g c1 g1 out) (h : g.1.2.2.2.2 ≤ 7) : g1.1.2.2.2.2 ≤ 7 := by
  rcases hs with ⟨hp, hs⟩ | ⟨hp, he, rfl⟩
  · rcases hs with ⟨-, rfl, -, -⟩ | ⟨-, -, ⟨ys, rfl⟩, -, -⟩ | ⟨-, r, -, -, rfl, -, -⟩ | ⟨hl, r, ts, sv, ce, la, hf, htk, hsec, he, rfl⟩
    · exact Nat.le_of_ble_eq_true rfl
    · exact Nat.le_of_ble_eq_true rfl
    · exact Nat.le_of_ble_eq_true rfl
    · have e1 : g1 = (cRun (cTk c ts sv) (gRd (gLn c g) r) ce).1 := congrArg Prod.fst he
      rw [e1]
      exact cRun_fl h
  · have e1 : g1 = (cEnd c1 g).1 := congrArg Prod.fst he
    rw [e1]
    unfold cEnd; repeat' split
    all_goals first | exact h | exact Nat.le_of_ble_eq_true rfl
theorem stR_c {c1 : zD} {g1 : zG} {out : Nat} (hs : stR c g c1 g1 out) : c1.2.2.2.2.2.1 = c.2.2.2.2.2.1 ∧ c1.1 = c.1 ∧ c1.2.1 = c.2.1 ∧ c1.2.2.1 = c.2.2.1 := by
  rcases hs with ⟨hp, hs⟩ | ⟨hp, he, rfl⟩
  · rcases hs with ⟨-, -, -, rfl⟩ | ⟨-, -, -, -, rfl⟩ | ⟨-, r, -, -, -, -, ts, sv, rfl⟩ | ⟨hl, r, ts, sv, ce, la, hf, htk, hsec, he, rfl⟩
    all_goals exact ⟨rfl, rfl, rfl, rfl⟩
  · exact ⟨rfl, rfl, rfl, rfl⟩
theorem cRun_o {ce : Nat × Nat × Nat} : (cRun c g ce).2 ≤ 2 := by
  unfold cRun
  split
  · exact Nat.le_of_ble_eq_true rfl
  split
  · unfold cObey
    repeat' split
    · unfold cIf; repeat' split
      all_goals exact Nat.le_of_ble_eq_true rfl
    · unfold cElse; repeat' split
      all_goals exact Nat.le_of_ble_eq_true rfl
    · unfold cEndif; repeat' split
      all_goals exact Nat.le_of_ble_eq_true rfl
    · unfold cRept; repeat' split
      all_goals exact Nat.le_of_ble_eq_true rfl
    · unfold cDef; repeat' split
      all_goals exact Nat.le_of_ble_eq_true rfl
    · exact Nat.le_of_ble_eq_true rfl
  split
  · exact Nat.le_of_ble_eq_true rfl
  · unfold cMac; repeat' split
    all_goals exact Nat.le_of_ble_eq_true rfl
theorem stR_o {c1 : zD} {g1 : zG} {out : Nat} (hs : stR c g c1 g1 out) : out ≤ 2 := by
  rcases hs with ⟨hp, hs⟩ | ⟨hp, he, rfl⟩
  · rcases hs with ⟨-, -, rfl, -⟩ | ⟨-, -, -, rfl, -⟩ | ⟨-, r, -, -, -, rfl, -⟩ | ⟨hl, r, ts, sv, ce, la, hf, htk, hsec, he, -⟩
    · exact Nat.le_refl _
    · exact Nat.le_refl _
    · exact Nat.le_refl _
    · have e1 : out = (cRun (cTk c ts sv) (gRd (gLn c g) r) ce).2 := congrArg Prod.snd he
      rw [e1]
      exact cRun_o
  · have e1 : out = (cEnd c1 g).2 := congrArg Prod.snd he
    rw [e1]
    unfold cEnd; repeat' split
    all_goals exact Nat.le_of_ble_eq_true rfl
theorem XJ.x {rp : Bool × Bool} {sc : Nat × Nat × Nat × Nat × Nat} (h : XJ S Z N c g B0 C0) : XJ (z_put S 1 (xcl (cRp c rp) (sc, g.2))) Z N (cRp c rp) (sc, g.2) B0 C0 := by
  obtain ⟨E, lB, lI, B, C, h1, h2, h3, h4⟩ := h
  exact ⟨E, lB, lI, B, C, h1.x, h2, h3, h4⟩
theorem XJ.n {sz : Nat} (h : XJ S Z N c g B0 C0) (hs : sz ≤ 20) : XJ (z_put S 20 (.inr (4, [.ref 21, .int (nI sz)]))) Z N c (gSz g sz) B0 C0 := by
  obtain ⟨E, lB, lI, B, C, h1, h2, h3, h4⟩ := h
  exact ⟨E, lB, lI, B, C, h1.n hs, h2, h3, h4⟩
theorem C_X7_step (h : XJ S Z N c g B0 C0) (hw : WF c g) (hp : g.1.1 < lim7 c g) : Rc (d + 10) mX7_readLine [.ref 1] S (fun v S1 => ∃ c1 g1 out, stR c g c1 g1 out ∧ v = some (.int (nI out)) ∧ XJ S1 Z N c1 g1 B0 C0) := by
  obtain ⟨E, lB, lI, B, C, h1, h2, h3, h4⟩ := h
  have hl := hw.lim
  have hcn := cnt_len (c := c)
  have h8 := hw.2.2.2.2.2.2.2
  have hsp := hw.sp
  have h6 := hw.2.2.2.2.2.1
  refine (C_X7_readLine h1 (by omega) ⟨by show g.1.1 + 1 ≤ _; omega, by show lim7 c g ≤ _; omega⟩ hw.2.2.1 hw.2.2.2.2.1.2 h2 h3 h4 (by omega)).mono ?_
  rintro v S1 ⟨c1, g1, out, a1, a2, a3⟩
  exact ⟨c1, g1, out, Or.inl ⟨hp, a1⟩, a2, a3⟩
theorem C_X7_step2 (h : XJ S Z N c g B0 C0) (hp : ¬ g.1.1 < lim7 c g) : Rc (d + 10) mX7_endLines [.ref 1] S (fun v S1 => ∃ c1 g1 out, stR c g c1 g1 out ∧ v = some (.int (nI out)) ∧ XJ S1 Z N c1 g1 B0 C0) := by
  obtain ⟨E, lB, lI, B, C, h1, h2, h3, h4⟩ := h
  refine (C_X7_endLines (d := d + 7) h1).mono ?_
  rintro v S1 ⟨a1, E1, a2⟩
  exact ⟨c, (cEnd c g).1, (cEnd c g).2, Or.inr ⟨hp, rfl, rfl⟩, a1, E1, lB, lI, B, C, a2, h2, by rw [cEnd_m]; exact h3, by rw [cEnd_m]; exact h4⟩
set_option maxRecDepth 10000 in
set_option maxHeartbeats 2000000 in
theorem C_X7_next (h : XJ S Z N c g B0 C0) (hw : c.2.2.2.2.2.1.1 = true → WF c g) : Ru (d + 11) mX7_next 0 (z_lf (lv_args 0 [.ref 1])) [] S (nxQ Z N c g B0 C0) := by
  have hx : S.2.2 1 = _ := h.choose_spec.choose_spec.choose_spec.choose_spec.choose_spec.1.x0
  have fin1 : ∀ (S1 : zS) (c1 : zD) (g1 : zG) (L : Nat → Option Value), c.2.2.2.2.2.1.1 = true → XJ S1 Z N c1 g1 B0 C0 → WF c1 g1 → c1.2.2.2.2.2.1 = (true, false) → rn (cRp c (true, false)) g c1 g1 1 → L 0 = some (.ref 1) → L 1 = some (.int 1) → Ru (d + 11) mX7_next 57 L [] S1 (nxQ Z N c g B0 C0) := by
    intro S1 c1 g1 L hr h1 hw1 hfl hrn l0 l1
    refine Ru.mono (Q1 := z_en mX7_next (fun v S2 => v = some (.int (nI g1.2.2.2.2.length)) ∧ XJ S2 Z N (cRp c1 (true, true)) g1 B0 C0)) ?_ (fun pc st S2 q => Or.inr (Or.inl ⟨hr, c1, g1, hrn, hw1, q⟩))
    have h2 := h1.x (rp := (true, true)) (sc := g1.1)
    have hx1 : S1.2.2 1 = xcl c1 g1 := h1.choose_spec.choose_spec.choose_spec.choose_spec.choose_spec.1.x0
    unfold xcl at hx1
    rw [hfl] at hx1
    refine r_aload_n dX7_next_57 (by first | rfl | assumption) ?_
    refine r_iload_n dX7_next_58 (by first | rfl | assumption) ?_
    refine r_ic (1) dX7_next_59 rfl ?_
    refine r_icmp_ne_f (tgt := 67) dX7_next_60 (by decide) (rfl) ?_
    refine r_ic (1) dX7_next_63 rfl ?_
    refine r_goto (tgt := 68) dX7_next_64 (by decide) ?_
    refine r_putf dX7_next_68 zf_X7_89 (by first | assumption | exact z_put_self) (Nat.le_of_ble_eq_true rfl) ⟨rfl, rfl⟩ ?_
    show Ru _ _ _ _ _ (z_put S1 1 (xcl (cRp c1 (true, true)) g1)) _
    have h2 : XJ (z_put S1 1 (xcl (cRp c1 (true, true)) g1)) Z N (cRp c1 (true, true)) g1 B0 C0 := h2
    generalize z_put S1 1 (xcl (cRp c1 (true, true)) g1) = S2 at h2 ⊢
    have h9 := h2
    obtain ⟨E2, lB2, lI2, B2, C2, h3, -⟩ := h9
    have hx2 := h3.x0
    have kr := (h3.1.b h3.2.2.1.2.2.2.1).1
    have kr1 := kr.1
    refine r_aload_n dX7_next_71 (by first | rfl | assumption) ?_
    refine r_getf dX7_next_72 zf_X7_89 (by first | assumption | exact z_put_self) rfl ?_
    refine r_if_eq_f (tgt := 86) dX7_next_75 (by decide) (show ¬ bI true = 0 by decide) ?_
    refine r_aload_n dX7_next_78 (by first | rfl | assumption) ?_
    refine r_getf dX7_next_79 zf_X7_21 (by first | assumption | exact z_put_self) rfl ?_
    refine r_callV0 dX7_next_82 zm_X7_52 (by assumption) rfl (Nat.le_of_ble_eq_true rfl) (Nat.le_of_ble_eq_true rfl) (C_X0_size kr) (fun v S9 hv => ?_)
    obtain ⟨hS9, rfl⟩ := hv
    subst hS9
    refine r_ireturn dX7_next_85 _ rfl rfl ⟨rfl, h2⟩
  have fin2 : ∀ (S1 : zS) (c1 : zD) (g1 : zG) (L : Nat → Option Value), c.2.2.2.2.2.1.1 = true → XJ S1 Z N c1 g1 B0 C0 → g1.1.2.2.2.2 ≤ 7 → c1.2.2.2.2.2.1 = (true, false) → rn (cRp c (true, false)) g c1 g1 2 → L 0 = some (.ref 1) → L 1 = some (.int 2) → Ru (d + 11) mX7_next 57 L [] S1 (nxQ Z N c g B0 C0) := by
    intro S1 c1 g1 L hr h1 hfa hfl hrn l0 l1
    have h2 := h1.x (rp := (true, false)) (sc := g1.1)
    have hx1 : S1.2.2 1 = xcl c1 g1 := h1.choose_spec.choose_spec.choose_spec.choose_spec.choose_spec.1.x0
    unfold xcl at hx1
    rw [hfl] at hx1
    refine r_aload_n dX7_next_57 (by first | rfl | assumption) ?_
    refine r_iload_n dX7_next_58 (by first | rfl | assumption) ?_
    refine r_ic (1) dX7_next_59 rfl ?_
    refine r_icmp_ne_t (tgt := 67) dX7_next_60 (by decide) ((show (2 : Int32) ≠ 1 by decide)) ?_
    refine r_ic (0) dX7_next_67 rfl ?_
    refine r_putf dX7_next_68 zf_X7_89 (by first | assumption | exact z_put_self) (Nat.le_of_ble_eq_true rfl) ⟨rfl, rfl⟩ ?_
    show Ru _ _ _ _ _ (z_put S1 1 (xcl (cRp c1 (true, false)) g1)) _
    have h2 : XJ (z_put S1 1 (xcl (cRp c1 (true, false)) g1)) Z N (cRp c1 (true, false)) g1 B0 C0 := h2
    generalize z_put S1 1 (xcl (cRp c1 (true, false)) g1) = S2 at h2 ⊢
    have hx2 : S2.2.2 1 = xcl (cRp c1 (true, false)) g1 := h2.choose_spec.choose_spec.choose_spec.choose_spec.choose_spec.1.x0
    unfold xcl at hx2
    refine r_aload_n dX7_next_71 (by first | rfl | assumption) ?_
    refine r_getf dX7_next_72 zf_X7_89 (by first | assumption | exact z_put_self) rfl ?_
    refine r_if_eq_t (tgt := 86) dX7_next_75 (by decide) (rfl) ?_
    refine r_aload_n dX7_next_86 (by first | rfl | assumption) ?_
    refine r_ic (0) dX7_next_87 rfl ?_
    refine r_putf dX7_next_88 zf_X7_85 (by first | assumption | exact z_put_self) (Nat.le_of_ble_eq_true rfl) ⟨rfl, rfl⟩ ?_
    have h3 : XJ (z_put S2 1 (xcl (cRp c1 (false, false)) g1)) Z N (cRp c1 (false, false)) g1 B0 C0 := h2.x (rp := (false, false)) (sc := g1.1)
    show Ru _ _ _ _ _ (z_put S2 1 (xcl (cRp c1 (false, false)) g1)) _
    generalize z_put S2 1 (xcl (cRp c1 (false, false)) g1) = S3 at h3 ⊢
    have h9 := h3
    obtain ⟨E3, lB3, lI3, B3, C3, h4, -⟩ := h9
    have hx3 := h4.x0
    have hn3 := h4.n0.1
    refine r_aload_n dX7_next_91 (by first | rfl | assumption) ?_
    refine r_getf dX7_next_92 zf_X7_37 (by first | assumption | exact z_put_self) rfl ?_
    refine r_callV0 dX7_next_95 zm_X7_67 (by assumption) rfl (Nat.le_of_ble_eq_true rfl) (Nat.le_of_ble_eq_true rfl) (C_X3_clear h4.n0) (fun v S4 hv => ?_)
    obtain ⟨rfl, rfl⟩ := hv
    have h5 := h3.n (sz := 0) (by decide)
    generalize z_put S3 20 (.inr (4, [.ref 21, .int (nI 0)])) = S4 at h5 ⊢
    have hx4 : S4.2.2 1 = xcl (cRp c1 (false, false)) (gSz g1 0) := h5.choose_spec.choose_spec.choose_spec.choose_spec.choose_spec.1.x0
    unfold xcl at hx4
    refine r_aload_n dX7_next_98 (by first | rfl | assumption) ?_
    refine r_getf dX7_next_99 zf_X7_82 (by first | assumption | exact z_put_self) rfl ?_
    by_cases q : g1.1.2.2.2.2 = 0
    · refine r_if_eq_t (tgt := 115) dX7_next_102 (by decide) (by show nI g1.1.2.2.2.2 = 0; rw [q]; rfl) ?_
      refine Ru.mono (Q1 := z_en mX7_next (fun v S2 => v = some (.int (-1)) ∧ XJ S2 Z N (cRp c1 (false, false)) (gTo (gSz g1 0) 0) B0 C0)) ?_ (fun pc st S2 z => Or.inr (Or.inr ⟨hr, c1, g1, hrn, Or.inr ⟨q, z⟩⟩))
      refine r_aload_n dX7_next_115 (by first | rfl | assumption) ?_
      refine r_ic (0) dX7_next_116 rfl ?_
      refine r_putf dX7_next_117 zf_X7_79 (by first | assumption | exact z_put_self) (Nat.le_of_ble_eq_true rfl) ⟨rfl, rfl⟩ ?_
      refine r_ic (-1) dX7_next_120 rfl ?_
      have h6 := h5.x (rp := (false, false)) (sc := (gTo (gSz g1 0) 0).1)
      refine r_ireturn dX7_next_121 _ rfl rfl ⟨rfl, h6⟩
    · refine r_if_eq_f (tgt := 115) dX7_next_102 (by decide) (fun z => q ((nI_eq (b := 0) (by show g1.1.2.2.2.2 < _; omega) (by decide)).mp z)) ?_
      exact Ru.here (Or.inr (Or.inr ⟨hr, c1, g1, hrn, Or.inl ⟨q, rfl, rfl, h5⟩⟩))
  have loop : ∀ (n : Nat) (k : Nat) (S1 : zS) (c1 : zD) (g1 : zG) (L : Nat → Option Value), phi c1 g1 ≤ n → k + phi c1 g1 ≤ 300000 → c.2.2.2.2.2.1.1 = true → XJ S1 Z N c1 g1 B0 C0 → WF c1 g1 → c1.2.2.2.2.2.1 = (true, false) → (∀ m c2 g2 o, rnR m c1 g1 c2 g2 o → rn (cRp c (true, false)) g c2 g2 o) → L 0 = some (.ref 1) → L 1 = some (.int 0) → L 2 = some (.int (nI k)) → Ru (d + 11) mX7_next 18 L [] S1 (nxQ Z N c g B0 C0) := by
    intro n
    induction n with
    | zero =>
      intro k S1 c1 g1 L hn hk hr h1 hw1 hfl hrn l0 l1 l2
      have := hw1.2.2.2.2.1.2
      unfold phi at hn
      omega
    | succ n ih =>
      intro k S1 c1 g1 L hn hk hr h1 hw1 hfl hrn l0 l1 l2
      have h9 := h1
      obtain ⟨E1, lB1, lI1, B1, C1, h2, -⟩ := h9
      have hx1 := h2.x0
      have hlim := hw1.lim
      have hcn := h2.cn
      have hpl := hw1.1
      refine r_iload_n dX7_next_18 (by first | rfl | assumption) ?_
      refine r_ldc dX7_next_19 zk_X7_95 ?_
      refine r_icmp_ge_f (tgt := 57) dX7_next_21 (by decide) (show ¬ nI 1000000 ≤ nI k from nI_ge (by omega) (by decide)) ?_
      refine r_iload_n dX7_next_24 (by first | rfl | assumption) ?_
      refine r_if_ne_f (tgt := 57) dX7_next_25 (by decide) (rfl) ?_
      refine r_aload_n dX7_next_28 (by first | rfl | assumption) ?_
      refine r_getf dX7_next_29 zf_X7_69 (by first | assumption | exact z_put_self) rfl ?_
      refine r_aload_n dX7_next_32 (by first | rfl | assumption) ?_
      refine r_callV0 dX7_next_33 zm_X7_96 (by assumption) rfl (Nat.le_of_ble_eq_true rfl) (Nat.le_of_ble_eq_true rfl) (C_X7_limit h2) (fun v S9 hv => ?_)
      obtain ⟨hS9, rfl⟩ := hv
      subst hS9
      have aft : ∀ (S2 : zS) (c2 : zD) (g2 : zG) (o : Nat) (L : Nat → Option Value), stR c1 g1 c2 g2 o → XJ S2 Z N c2 g2 B0 C0 → L 0 = some (.ref 1) → L 1 = some (.int 0) → L 2 = some (.int (nI k)) → Ru (d + 11) mX7_next 50 L [.int (nI o)] S2 (nxQ Z N c g B0 C0) := by
        intro S2 c2 g2 o L hs h3 l0 l1 l2
        have ho := stR_o hs
        have hf7 := stR_fl hs (by rw [hw1.2.2.2.2.2.2.1]; exact Nat.zero_le _)
        have hfl2 : c2.2.2.2.2.2.1 = (true, false) := (stR_c hs).1.trans hfl
        have hb : g2.2.2.2.2.length ≤ 1024 ∧ ∀ i, i < g2.2.2.2.2.length → g2.2.2.2.2.getD i 0 < 256 := by
          obtain ⟨E3, lB3, lI3, B3, C3, h4, -⟩ := h3
          exact ⟨(h4.1.bl h4.2.2.1.2.2.2.1).1, fun i hi => h4.1.byte h4.2.2.1.2.2.2.1 hi⟩
        have hph : 0 < phi c1 g1 := by
          have := hw1.2.2.2.2.1.2
          unfold phi
          omega
        refine r_istore_n dX7_next_50 (by decide) (by first | assumption | exact z_c1_i (by first | rfl | assumption) | exact z_c1_r (by first | rfl | assumption) | exact z_c1_n (by first | rfl | assumption) | exact z_c1_c (by first | rfl | assumption) | exact z_c1_0 (by first | rfl | assumption)) ?_
        refine r_inc (nI (k + 1)) dX7_next_51 (by first | rfl | assumption) (by decide) (by first | assumption | exact z_c1_i (by first | rfl | assumption) | exact z_c1_r (by first | rfl | assumption) | exact z_c1_n (by first | rfl | assumption) | exact z_c1_c (by first | rfl | assumption) | exact z_c1_0 (by first | rfl | assumption)) (nI_1 _) ?_
        refine r_goto (tgt := 18) dX7_next_54 (by decide) ?_
        by_cases q0 : o = 0
        · subst q0
          have hst := stR_wf hw1 hs hb (by decide)
          refine ih (k + 1) S2 c2 g2 _ (by omega) (by omega) hr h3 hst.1 hfl2 (fun m c3 g3 o3 hm => hrn (m + 1) c3 g3 o3 ⟨c2, g2, 0, hs, hb, Or.inr ⟨rfl, hm⟩⟩) l0 rfl rfl
        · have hrn2 := hrn 1 c2 g2 o ⟨c2, g2, o, hs, hb, Or.inl ⟨q0, rfl, rfl, rfl⟩⟩
          refine r_iload_n dX7_next_18 (by first | rfl | assumption) ?_
          refine r_ldc dX7_next_19 zk_X7_95 ?_
          refine r_icmp_ge_f (tgt := 57) dX7_next_21 (by decide) (show ¬ nI 1000000 ≤ nI (k + 1) from nI_ge (by omega) (by decide)) ?_
          refine r_iload_n dX7_next_24 (by first | rfl | assumption) ?_
          refine r_if_ne_t (tgt := 57) dX7_next_25 (by decide) (fun z => q0 ((nI_eq (b := 0) (by omega) (by decide)).mp z)) ?_
          have ho2 : o = 1 ∨ o = 2 := by omega
          rcases ho2 with rfl | rfl
          · exact fin1 S2 c2 g2 _ hr h3 (stR_wf hw1 hs hb (by decide)).1 hfl2 hrn2 l0 rfl
          · exact fin2 S2 c2 g2 _ hr h3 hf7 hfl2 hrn2 l0 rfl
      by_cases q : g1.1.1 < lim7 c1 g1
      · refine r_icmp_ge_f (tgt := 46) dX7_next_36 (by decide) (show ¬ nI (lim7 c1 g1) ≤ nI g1.1.1 from nI_ge q (by omega)) ?_
        refine r_aload_n dX7_next_39 (by first | rfl | assumption) ?_
        refine r_callV0 dX7_next_40 zm_X7_99 (by assumption) rfl (Nat.le_of_ble_eq_true rfl) (Nat.le_of_ble_eq_true rfl) (C_X7_step h1 hw1 q) (fun v S2 hv => ?_)
        obtain ⟨c2, g2, o, hs, rfl, h3⟩ := hv
        refine r_goto (tgt := 50) dX7_next_43 (by decide) ?_
        exact aft _ c2 g2 o _ hs h3 l0 l1 l2
      · refine r_icmp_ge_t (tgt := 46) dX7_next_36 (by decide) (show nI (lim7 c1 g1) ≤ nI g1.1.1 from nI_le (by omega) (by omega)) ?_
        refine r_aload_n dX7_next_46 (by first | rfl | assumption) ?_
        refine r_callV0 dX7_next_47 zm_X7_102 (by assumption) rfl (Nat.le_of_ble_eq_true rfl) (Nat.le_of_ble_eq_true rfl) (C_X7_step2 h1 q) (fun v S2 hv => ?_)
        obtain ⟨c2, g2, o, hs, rfl, h3⟩ := hv
        exact aft _ c2 g2 o _ hs h3 l0 l1 l2
  refine r_aload_n dX7_next_0 (by first | rfl | assumption) ?_
  refine r_ic (0) dX7_next_1 rfl ?_
  refine r_putf dX7_next_2 zf_X7_89 (by first | assumption | exact z_put_self) (Nat.le_of_ble_eq_true rfl) ⟨rfl, rfl⟩ ?_
  have h1 : XJ (z_put S 1 (xcl (cRp c (c.2.2.2.2.2.1.1, false)) g)) Z N (cRp c (c.2.2.2.2.2.1.1, false)) g B0 C0 := h.x (rp := (c.2.2.2.2.2.1.1, false)) (sc := g.1)
  show Ru _ _ _ _ _ (z_put S 1 (xcl (cRp c (c.2.2.2.2.2.1.1, false)) g)) _
  generalize z_put S 1 (xcl (cRp c (c.2.2.2.2.2.1.1, false)) g) = S1 at h1 ⊢
  have hx1 : S1.2.2 1 = xcl (cRp c (c.2.2.2.2.2.1.1, false)) g := h1.choose_spec.choose_spec.choose_spec.choose_spec.choose_spec.1.x0
  unfold xcl at hx1
  refine r_aload_n dX7_next_5 (by first | rfl | assumption) ?_
  refine r_getf dX7_next_6 zf_X7_85 (by first | assumption | exact z_put_self) rfl ?_
  cases hr : c.2.2.2.2.2.1.1 with
  | false =>
    refine r_if_ne_f (tgt := 14) dX7_next_9 (by decide) (rfl) ?_
    refine Ru.mono (Q1 := z_en mX7_next (fun v S2 => v = some (.int (-1)) ∧ XJ S2 Z N (cRp c (false, false)) g B0 C0)) ?_ (fun pc st S2 q => Or.inl ⟨hr, q⟩)
    rw [hr] at h1
    refine r_ic (-1) dX7_next_12 rfl ?_
    refine r_ireturn dX7_next_13 _ rfl rfl ⟨rfl, h1⟩
  | true =>
    refine r_if_ne_t (tgt := 14) dX7_next_9 (by decide) (show ¬ (1 : Int32) = 0 by decide) ?_
    rw [hr] at h1
    refine r_ic (0) dX7_next_14 rfl ?_
    refine r_istore_n dX7_next_15 (by decide) (by first | assumption | exact z_c1_i (by first | rfl | assumption) | exact z_c1_r (by first | rfl | assumption) | exact z_c1_n (by first | rfl | assumption) | exact z_c1_c (by first | rfl | assumption) | exact z_c1_0 (by first | rfl | assumption)) ?_
    refine r_ic (0) dX7_next_16 rfl ?_
    refine r_istore_n dX7_next_17 (by decide) (by first | assumption | exact z_c1_i (by first | rfl | assumption) | exact z_c1_r (by first | rfl | assumption) | exact z_c1_n (by first | rfl | assumption) | exact z_c1_c (by first | rfl | assumption) | exact z_c1_0 (by first | rfl | assumption)) ?_
    have hw1 := hw hr
    refine loop (phi c g) 0 S1 (cRp c (true, false)) g _ (Nat.le_refl _) ?_ hr h1 hw1 rfl (fun m c2 g2 o hm => ⟨m, hm⟩) rfl rfl rfl
    have h20 : g.2.1 ≤ 20 := h.choose_spec.choose_spec.choose_spec.choose_spec.choose_spec.1.sz
    show 0 + phi c g ≤ 300000
    unfold phi
    split <;> omega
end
