/-! THE READER: what its steps do -/
def gPos (g : zG) (p : Nat) : zG := ((p, g.1.2), g.2)
def gFl (g : zG) (k : Nat) : zG := ((g.1.1, g.1.2.1, g.1.2.2.1, g.1.2.2.2.1, k), g.2)
def gUn (c : zD) (g : zG) : zG := ((g.1.1, g.1.2.1, g.1.2.2.1, cnt c, 6), g.2)
def gPt (g : zG) (j : Nat) (q : zPt) : zG := (g.1, g.2.1, va_up g.2.2.1 j q, g.2.2.2)
def gSz (g : zG) (n : Nat) : zG := (g.1, n, g.2.2)
/-- a part is opened with a kind -/
def gOp (g : zG) (k : Int32) : zG := gSz (gPt g g.2.1 (k, (g.2.2.1 g.2.1).2)) (g.2.1 + 1)
def gCl (g : zG) : zG := gSz g (g.2.1 - 1)
/-- the line that ends what a word began, ahead of where the lines that are read end -/
def fz (c : zD) (g : zG) (bg : Nat) (oe : Bool) : Option Nat := fnz (wsO c.2.1) g.1.1 (lim7 c g) bg oe
def sec7 (c : zD) : Int64 := c.2.2.2.2.1.2.2
def cIf (c : zD) (g : zG) : zG × Nat := if g.2.1 = 20 ∨ ((fz c g 1 false).isNone && (iL g).isSome) = true then (gFl g 6, 2) else if numA c.2.2.2.1 = false then (gFl g 1, 2) else if sec7 c ≠ 0 then (gOp g 1, 0) else match fz c g 1 true with
  | none => (gUn c g, 2)
  | some o => if (wsO c.2.1).getD o 0 = 2 then (gOp (gPos g (o + 1)) 2, 0) else (gPos g (o + 1), 0)
def cElse (c : zD) (g : zG) : zG × Nat := if kdA (kdG g) g.2.1 ≠ 1 then (gFl g 6, 2) else if ((fz c g 1 false).isNone && (iL g).isSome) = true then (gFl g 6, 2) else if c.2.2.2.1.length ≠ 1 then (gFl g 1, 2) else match fz c g 1 false with
  | none => (gUn c g, 2)
  | some o => (gCl (gPos g (o + 1)), 0)
def cEndif (c : zD) (g : zG) : zG × Nat := if kdA (kdG g) g.2.1 ≠ 1 ∧ kdA (kdG g) g.2.1 ≠ 2 then (gFl g 6, 2) else if c.2.2.2.1.length ≠ 1 then (gFl g 1, 2) else (gCl g, 0)
def cRept (c : zD) (g : zG) : zG × Nat := if g.2.1 = 20 ∨ ((fz c g 4 false).isNone && (iL g).isSome) = true then (gFl g 6, 2) else if numA c.2.2.2.1 = false then (gFl g 1, 2) else if sec7 c < 0 ∨ 4096 < sec7 c then (gFl g 7, 2) else match fz c g 4 false with
  | none => (gUn c g, 2)
  | some o => if 0 < sec7 c ∧ g.1.1 < o then (gSz (gPt g g.2.1 (4, (g.1.1, o, o + 1, g.1.2.2.2.1), (sec7 c).toInt32, (g.2.2.1 g.2.1).2.2.2)) (g.2.1 + 1), 0) else (gPos g (o + 1), 0)
def cEnd (c : zD) (g : zG) : zG × Nat := if g.2.1 = 0 then (g, 2) else if hasL (kdG g (g.2.1 - 1)) = false then (if (iL g).isNone = true then (gUn c g, 2) else (gFl g 6, 2)) else
  if kdG g (g.2.1 - 1) = 4 ∧ 0 < (g.2.2.1 (g.2.1 - 1)).2.2.1 - 1 then (gPos (gPt g (g.2.1 - 1) ((g.2.2.1 (g.2.1 - 1)).1, (g.2.2.1 (g.2.1 - 1)).2.1, (g.2.2.1 (g.2.1 - 1)).2.2.1 - 1, (g.2.2.1 (g.2.1 - 1)).2.2.2)) (g.2.2.1 (g.2.1 - 1)).2.1.1, 0)
  else (gCl (gPos (gPt g (g.2.1 - 1) ((g.2.2.1 (g.2.1 - 1)).1, (g.2.2.1 (g.2.1 - 1)).2.1, (g.2.2.1 (g.2.1 - 1)).2.2.1 - 1, (g.2.2.1 (g.2.1 - 1)).2.2.2)) (g.2.2.1 (g.2.1 - 1)).2.1.2.2.1), 0)
/-- what numbers may be -/
def gOk (c : zD) (g : zG) : Prop := g.1.1 ≤ 65537 ∧ lim7 c g ≤ 65537
section
variable {d : Nat} {S : zS} {E : zE} {lB lI : List Nat} {B C N : Nat} {Z : Nat → zC} {c : zD} {g : zG}
theorem XI.pos {p : Nat} (h : XI S E lB lI B C Z N c g) : XI (z_put S 1 (xcl c (gPos g p))) E lB lI B C Z N c (gPos g p) := h.x (rp := c.2.2.2.2.2.1) (sc := (p, g.1.2))
theorem C_X7_fz {bg : Nat} {oe : Bool} (h : XI S E lB lI B C Z N c g) (ho : gOk c g) (hbg : bg = 1 ∨ bg = 4 ∨ bg = 6) : Rc (d + 1) mX5_find [.ref 2, .int (nI g.1.1), .int (nI (lim7 c g)), .int (nI bg), .int (bI oe)] S (fun v S1 => S1 = S ∧ v = some (.int (oI (fz c g bg oe)))) := C_X5_find h.s0 h.1 h.ws (wsO_lt c.2.1) hbg ho.1 ho.2
theorem fnd_lt {ws : List Nat} {en bg : Nat} {cn oe : Bool} : ∀ (n i op o : Nat), fnd ws en bg cn oe n i op = some o → i ≤ o ∧ o < i + n := by
  intro n
  induction n with
  | zero => intro i op o h; cases h
  | succ n ih =>
    intro i op o h
    unfold fnd at h
    repeat' split at h
    all_goals first | (cases h; omega) | (have := ih _ _ _ h; omega)
theorem fz_lt {bg : Nat} {oe : Bool} {o : Nat} (h : fz c g bg oe = some o) : g.1.1 ≤ o ∧ o < lim7 c g := by
  have := fnd_lt _ _ _ _ h
  omega
theorem C_X7_open {x : Nat} (h : XI S E lB lI B C Z N c g) (hs : g.2.1 < 20) : Rc (d + 1) mX3_open [.ref 20, .int (nI x)] S (fun v S1 => v = some (.ref (ptN g.2.1)) ∧ XI S1 E lB lI B C Z N c (gOp g (nI x))) := by
  refine (C_X3_open h.n0 hs (h.p0 _ hs) rfl).mono ?_
  rintro v S1 ⟨rfl, rfl⟩
  exact ⟨rfl, (h.p (q := (nI x, (g.2.2.1 g.2.1).2)) hs rfl).n (sz := g.2.1 + 1) hs⟩
theorem C_X7_close (h : XI S E lB lI B C Z N c g) : Rc d mX3_close [.ref 20] S (fun v S1 => v = none ∧ XI S1 E lB lI B C Z N c (gCl g)) := by
  refine (C_X3_close h.n0).mono ?_
  rintro v S1 ⟨rfl, rfl⟩
  have := h.sz
  exact ⟨rfl, h.n (sz := g.2.1 - 1) (by omega)⟩
/-- behind a step -/
def stP (lB lI : List Nat) (B C : Nat) (Z : Nat → zC) (N : Nat) (c : zD) (r : zG × Nat) (v : Option Value) (S1 : zS) : Prop := v = some (.int (nI r.2)) ∧ ∃ E1, XI S1 E1 lB lI B C Z N c r.1
theorem lcmp_0 {x y : Int64} : lg_cmp x y = 0 ↔ x = y := by
  unfold lg_cmp
  split
  · next q => exact ⟨fun z => absurd z (by decide), fun z => by subst z; exact absurd q (by simp)⟩
  · split
    · next q => exact ⟨fun _ => q, fun _ => rfl⟩
    · next q => exact ⟨fun z => absurd z (by decide), fun z => absurd z q⟩
set_option maxRecDepth 10000 in
set_option maxHeartbeats 1000000 in
theorem C_X7_readIf (h : XI S E lB lI B C Z N c g) (ho : gOk c g) : Rc (d + 3) mX7_readIf [.ref 1] S (stP lB lI B C Z N c (cIf c g)) := by
  have hx := h.x0
  have hs0 := h.2.1.2.1
  have hn0 := h.n0.1
  have ht0 := h.t0
  have hsz := h.sz
  refine Rc.of ?_
  refine r_aload_n dX7_readIf_0 (by first | rfl | assumption) ?_
  refine r_callV0 dX7_readIf_1 zm_X7_96 (by assumption) rfl (Nat.le_of_ble_eq_true rfl) (Nat.le_of_ble_eq_true rfl) (C_X7_limit h) (fun v S9 hv => ?_)
  obtain ⟨hS9, rfl⟩ := hv
  subst hS9
  refine r_istore_n dX7_readIf_4 (by decide) (by first | exact z_c1_i (by first | rfl | assumption) | exact z_c1_r (by first | rfl | assumption) | exact z_c1_n (by first | rfl | assumption) | exact z_c1_c (by first | rfl | assumption) | exact z_c1_0 (by first | rfl | assumption)) ?_
  refine r_aload_n dX7_readIf_5 (by first | rfl | assumption) ?_
  refine r_getf dX7_readIf_6 zf_X7_37 (by assumption) rfl ?_
  refine r_callV0 dX7_readIf_9 zm_X7_195 (by assumption) rfl (Nat.le_of_ble_eq_true rfl) (Nat.le_of_ble_eq_true rfl) (C_X3_isFull h.n0) (fun v S9 hv => ?_)
  obtain ⟨hS9, rfl⟩ := hv
  subst hS9
  have f6 : (g.2.1 = 20 ∨ ((fz c g 1 false).isNone && (iL g).isSome) = true) → ∀ L : Nat → Option Value, L 0 = some (.ref 1) → Ru (d + 3) mX7_readIf 36 L [] S9 (z_en mX7_readIf (stP lB lI B C Z N c (cIf c g))) := by
    intro q L l0
    have e : cIf c g = (gFl g 6, 2) := if_pos q
    rw [e]
    refine r_aload_n dX7_readIf_36 (by first | rfl | assumption) ?_
    refine r_bp (6) dX7_readIf_37 rfl ?_
    refine r_callV1 dX7_readIf_39 zm_X7_132 (by assumption) rfl (Nat.le_of_ble_eq_true rfl) (Nat.le_of_ble_eq_true rfl) (C_X7_tell (k := 6) h) (fun v S8 hv => ?_)
    obtain ⟨rfl, h3⟩ := hv
    refine r_ireturn dX7_readIf_42 _ rfl rfl ⟨rfl, E, h3⟩
  by_cases q1 : g.2.1 = 20
  · refine r_if_ne_t (tgt := 36) dX7_readIf_12 (by decide) (by rw [decide_eq_true q1]; decide) ?_
    exact f6 (Or.inl q1) _ rfl
  refine r_if_ne_f (tgt := 36) dX7_readIf_12 (by decide) (by rw [decide_eq_false q1]; rfl) ?_
  refine r_aload_n dX7_readIf_15 (by first | rfl | assumption) ?_
  refine r_aload_n dX7_readIf_16 (by first | rfl | assumption) ?_
  refine r_getf dX7_readIf_17 zf_X7_10 (by assumption) rfl ?_
  refine r_aload_n dX7_readIf_20 (by first | rfl | assumption) ?_
  refine r_getf dX7_readIf_21 zf_X7_69 (by assumption) rfl ?_
  refine r_iload_n dX7_readIf_24 (by first | rfl | assumption) ?_
  refine r_ic (1) dX7_readIf_25 rfl ?_
  refine r_ic (0) dX7_readIf_26 rfl ?_
  refine r_callV4 dX7_readIf_27 zm_X7_198 (by assumption) rfl (Nat.le_of_ble_eq_true rfl) (Nat.le_of_ble_eq_true rfl) (C_X7_fz (bg := 1) (oe := false) h ho (Or.inl rfl)) (fun v S9 hv => ?_)
  obtain ⟨hS9, rfl⟩ := hv
  subst hS9
  refine r_callV1 dX7_readIf_30 zm_X7_202 (by assumption) rfl (Nat.le_of_ble_eq_true rfl) (Nat.le_of_ble_eq_true rfl) (C_X7_isEndMissing (fun k hk => by have := fz_lt hk; have := ho.2; omega) h) (fun v S9 hv => ?_)
  obtain ⟨hS9, rfl⟩ := hv
  subst hS9
  by_cases q2 : ((fz c g 1 false).isNone && (iL g).isSome) = true
  · refine r_if_eq_f (tgt := 43) dX7_readIf_33 (by decide) (by rw [q2]; decide) ?_
    exact f6 (Or.inr q2) _ rfl
  refine r_if_eq_t (tgt := 43) dX7_readIf_33 (by decide) (by rw [Bool.eq_false_iff.mpr q2]; rfl) ?_
  have e1 : cIf c g = if numA c.2.2.2.1 = false then (gFl g 1, 2) else if sec7 c ≠ 0 then (gOp g 1, 0) else match fz c g 1 true with
    | none => (gUn c g, 2)
    | some o => if (wsO c.2.1).getD o 0 = 2 then (gOp (gPos g (o + 1)) 2, 0) else (gPos g (o + 1), 0) := if_neg (fun z => z.elim q1 q2)
  refine r_aload_n dX7_readIf_43 (by first | rfl | assumption) ?_
  refine r_callV0 dX7_readIf_44 zm_X7_205 (by assumption) rfl (Nat.le_of_ble_eq_true rfl) (Nat.le_of_ble_eq_true rfl) (C_X7_isNumberAlone h) (fun v S9 hv => ?_)
  obtain ⟨hS9, rfl⟩ := hv
  subst hS9
  by_cases q3 : numA c.2.2.2.1 = false
  · rw [if_pos q3] at e1
    rw [e1, q3]
    refine r_if_ne_f (tgt := 56) dX7_readIf_47 (by decide) (rfl) ?_
    refine r_aload_n dX7_readIf_50 (by first | rfl | assumption) ?_
    refine r_ic (1) dX7_readIf_51 rfl ?_
    refine r_callV1 dX7_readIf_52 zm_X7_132 (by assumption) rfl (Nat.le_of_ble_eq_true rfl) (Nat.le_of_ble_eq_true rfl) (C_X7_tell (k := 1) h) (fun v S8 hv => ?_)
    obtain ⟨rfl, h3⟩ := hv
    refine r_ireturn dX7_readIf_55 _ rfl rfl ⟨rfl, E, h3⟩
  rw [if_neg q3] at e1
  refine r_if_ne_t (tgt := 56) dX7_readIf_47 (by decide) (by rw [Bool.not_eq_false _ |>.mp q3]; decide) ?_
  refine r_aload_n dX7_readIf_56 (by first | rfl | assumption) ?_
  refine r_getf dX7_readIf_57 zf_X7_30 (by assumption) rfl ?_
  refine r_callV0 dX7_readIf_60 zm_X7_208 (by assumption) rfl (Nat.le_of_ble_eq_true rfl) (Nat.le_of_ble_eq_true rfl) (C_X6_second h.t0) (fun v S9 hv => ?_)
  obtain ⟨hS9, rfl⟩ := hv
  subst hS9
  refine r_lc (0) dX7_readIf_63 rfl ?_
  refine r_lcmp dX7_readIf_64 ?_
  by_cases q4 : sec7 c ≠ 0
  · rw [if_pos q4] at e1
    rw [e1]
    refine r_if_eq_f (tgt := 79) dX7_readIf_65 (by decide) (fun z => q4 (lcmp_0.mp z)) ?_
    refine r_aload_n dX7_readIf_68 (by first | rfl | assumption) ?_
    refine r_getf dX7_readIf_69 zf_X7_37 (by assumption) rfl ?_
    refine r_ic (1) dX7_readIf_72 rfl ?_
    refine r_callV1 dX7_readIf_73 zm_X7_212 (by assumption) rfl (Nat.le_of_ble_eq_true rfl) (Nat.le_of_ble_eq_true rfl) (C_X7_open (x := 1) h (by omega)) (fun v S8 hv => ?_)
    obtain ⟨rfl, h3⟩ := hv
    refine r_pop dX7_readIf_76 rfl ?_
    refine r_ic (0) dX7_readIf_77 rfl ?_
    refine r_ireturn dX7_readIf_78 _ rfl rfl ⟨rfl, E, h3⟩
  rw [if_neg q4] at e1
  refine r_if_eq_t (tgt := 79) dX7_readIf_65 (by decide) (lcmp_0.mpr (Decidable.not_not.mp q4)) ?_
  refine r_aload_n dX7_readIf_79 (by first | rfl | assumption) ?_
  refine r_getf dX7_readIf_80 zf_X7_10 (by assumption) rfl ?_
  refine r_aload_n dX7_readIf_83 (by first | rfl | assumption) ?_
  refine r_getf dX7_readIf_84 zf_X7_69 (by assumption) rfl ?_
  refine r_iload_n dX7_readIf_87 (by first | rfl | assumption) ?_
  refine r_ic (1) dX7_readIf_88 rfl ?_
  refine r_ic (1) dX7_readIf_89 rfl ?_
  refine r_callV4 dX7_readIf_90 zm_X7_198 (by assumption) rfl (Nat.le_of_ble_eq_true rfl) (Nat.le_of_ble_eq_true rfl) (C_X7_fz (bg := 1) (oe := true) h ho (Or.inl rfl)) (fun v S9 hv => ?_)
  obtain ⟨hS9, rfl⟩ := hv
  subst hS9
  refine r_istore_n dX7_readIf_93 (by decide) (by first | exact z_c1_i (by first | rfl | assumption) | exact z_c1_r (by first | rfl | assumption) | exact z_c1_n (by first | rfl | assumption) | exact z_c1_c (by first | rfl | assumption) | exact z_c1_0 (by first | rfl | assumption)) ?_
  refine r_iload_n dX7_readIf_94 (by first | rfl | assumption) ?_
  cases hf : fz c g 1 true with
  | none =>
    rw [hf] at e1
    rw [e1]
    refine r_if_ge_f (tgt := 103) dX7_readIf_95 (by decide) (show ¬ (0 : Int32) ≤ -1 by decide) ?_
    refine r_aload_n dX7_readIf_98 (by first | rfl | assumption) ?_
    refine r_callV0 dX7_readIf_99 zm_X7_216 (by assumption) rfl (Nat.le_of_ble_eq_true rfl) (Nat.le_of_ble_eq_true rfl) (C_X7_tellUnended h) (fun v S8 hv => ?_)
    obtain ⟨rfl, h3⟩ := hv
    refine r_ireturn dX7_readIf_102 _ rfl rfl ⟨rfl, E, h3⟩
  | some o =>
    rw [hf] at e1
    have e1 : cIf c g = if (wsO c.2.1).getD o 0 = 2 then (gOp (gPos g (o + 1)) 2, 0) else (gPos g (o + 1), 0) := e1
    have hol := fz_lt hf
    have ho2 := ho.2
    rw [e1, show oI (some o) = nI o from rfl]
    refine r_if_ge_t (tgt := 103) dX7_readIf_95 (by decide) (show nI 0 ≤ nI o from nI_le (Nat.zero_le _) (by omega)) ?_
    refine r_aload_n dX7_readIf_103 (by first | rfl | assumption) ?_
    refine r_iload_n dX7_readIf_104 (by first | rfl | assumption) ?_
    refine r_ic (1) dX7_readIf_105 rfl ?_
    refine r_iadd dX7_readIf_106 ?_
    rw [nI_1]
    refine r_putf dX7_readIf_107 zf_X7_69 (by assumption) (Nat.le_of_ble_eq_true rfl) ⟨rfl, rfl⟩ ?_
    have h3 := h.pos (p := o + 1)
    show Ru _ _ _ _ _ (z_put S9 1 (xcl c (gPos g (o + 1)))) _
    generalize z_put S9 1 (xcl c (gPos g (o + 1))) = S3 at h3 ⊢
    have hx3 := h3.x0
    have hs3 := h3.2.1.2.1
    have hn3 := h3.n0.1
    refine r_aload_n dX7_readIf_110 (by first | rfl | assumption) ?_
    refine r_getf dX7_readIf_111 zf_X7_10 (by assumption) rfl ?_
    refine r_iload_n dX7_readIf_114 (by first | rfl | assumption) ?_
    refine r_callV1 dX7_readIf_115 zm_X7_219 (by assumption) rfl (Nat.le_of_ble_eq_true rfl) (Nat.le_of_ble_eq_true rfl) (C_X5_word h3.s0 h3.1 h3.ws) (fun v S8 hv => ?_)
    obtain ⟨hS8, rfl⟩ := hv
    subst hS8
    have hwl : (wsO c.2.1).length ≤ 65536 := by
      have := h.1.il h.ws
      rw [List.length_map] at this
      exact this.1
    rw [iAt_map (by omega) (by omega)]
    have hw8 := wsO_lt c.2.1 o
    refine r_ic (2) dX7_readIf_118 rfl ?_
    by_cases q5 : (wsO c.2.1).getD o 0 = 2
    · rw [if_pos q5]
      refine r_icmp_ne_f (tgt := 131) dX7_readIf_119 (by decide) (by rw [q5]; rfl) ?_
      refine r_aload_n dX7_readIf_122 (by first | rfl | assumption) ?_
      refine r_getf dX7_readIf_123 zf_X7_37 (by assumption) rfl ?_
      refine r_ic (2) dX7_readIf_126 rfl ?_
      refine r_callV1 dX7_readIf_127 zm_X7_212 (by assumption) rfl (Nat.le_of_ble_eq_true rfl) (Nat.le_of_ble_eq_true rfl) (C_X7_open (x := 2) h3 (show g.2.1 < 20 by omega)) (fun v S7 hv => ?_)
      obtain ⟨rfl, h4⟩ := hv
      refine r_pop dX7_readIf_130 rfl ?_
      refine r_ic (0) dX7_readIf_131 rfl ?_
      refine r_ireturn dX7_readIf_132 _ rfl rfl ⟨rfl, E, h4⟩
    · rw [if_neg q5]
      refine r_icmp_ne_t (tgt := 131) dX7_readIf_119 (by decide) (fun z => q5 ((nI_eq (b := 2) (by omega) (by decide)).mp z)) ?_
      refine r_ic (0) dX7_readIf_131 rfl ?_
      refine r_ireturn dX7_readIf_132 _ rfl rfl ⟨rfl, E, h3⟩
end
