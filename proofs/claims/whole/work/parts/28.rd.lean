/-! THE READER: what it asks -/
def kdG (g : zG) : Nat → Int32 := fun j => (g.2.2.1 j).1
/-- the innermost lines' part; the innermost macro's -/
def iL (g : zG) : Option Nat := inL (kdG g) g.2.1
def iM (g : zG) : Option Nat := inM (kdG g) g.2.1
def cnt (c : zD) : Nat := (lnz c.2.1).length
def wsO (xs : List Nat) : List Nat := (lnz xs).map fun q => lw xs q.1
def lim7 (c : zD) (g : zG) : Nat := match iL g with
  | none => cnt c
  | some j => (g.2.2.1 j).2.1.2.1
theorem inL_lt {kd : Nat → Int32} : ∀ (n j : Nat), inL kd n = some j → j < n ∧ hasL (kd j) = true
  | 0, _, h => by cases h
  | n + 1, j, h => by
    have h : (if hasL (kd n) = true then some n else inL kd n) = some j := h
    split at h
    · next q => cases h; exact ⟨Nat.lt_succ_self _, q⟩
    · have := inL_lt n j h
      exact ⟨by omega, this.2⟩
theorem inM_lt {kd : Nat → Int32} : ∀ (n j : Nat), inM kd n = some j → j < n ∧ kd j = 6
  | 0, _, h => by cases h
  | n + 1, j, h => by
    have h : (if kd n = 6 then some n else inM kd n) = some j := h
    split at h
    · next q => cases h; exact ⟨Nat.lt_succ_self _, q⟩
    · have := inM_lt n j h
      exact ⟨by omega, this.2⟩
theorem wdF_lt (xs : List Nat) : ∀ (k w : Nat), w + k ≤ 8 → wdF xs k w < 8
  | 0, _, _ => Nat.zero_lt_succ _
  | k + 1, w, h => by
    show (if xs = z_sb (w - 1) then w else wdF xs k (w + 1)) < 8
    split
    · omega
    · exact wdF_lt xs k (w + 1) (by omega)
theorem wd_lt (xs : List Nat) : wd xs < 8 := wdF_lt xs 7 1 (by decide)
theorem wsO_lt (xs : List Nat) (i : Nat) : (wsO xs).getD i 0 < 8 := by
  rcases Nat.lt_or_ge i (wsO xs).length with q | q
  · have h := List.mem_of_getElem? (getD_some (d0 := 0) q)
    obtain ⟨z, -, hz⟩ := List.mem_map.mp h
    rw [← hz]
    exact wd_lt _
  · rw [List.getD_eq_getElem?_getD, List.getElem?_eq_none q]
    decide
section
variable {d : Nat} {S : zS} {E : zE} {lB lI : List Nat} {B C N : Nat} {Z : Nat → zC} {c : zD} {g : zG}
theorem XI.sz (h : XI S E lB lI B C Z N c g) : g.2.1 ≤ 20 := h.n0.2.2
theorem XI.ws (h : XI S E lB lI B C Z N c g) : E.2.1 7 = some (65536, (wsO c.2.1).map nI) := by
  rw [h.2.2.1.2.2.2.2.2.2.1]
  unfold wsO
  rw [List.map_map]
  rfl
theorem XI.cn (h : XI S E lB lI B C Z N c g) : cnt c ≤ 65536 := by
  have := h.1.il h.2.2.1.2.2.2.2.1
  rw [List.length_map] at this
  unfold cnt
  omega
theorem C_X7_lines (h : XI S E lB lI B C Z N c g) : Rc (d + 1) mX3_innermostLines [.ref 20] S (fun v S1 => S1 = S ∧ v = some (oV ptN (iL g))) := C_X3_innermostLines h.n0 h.kd
theorem C_X7_limit (h : XI S E lB lI B C Z N c g) : Rc (d + 2) mX7_limit [.ref 1] S (fun v S1 => S1 = S ∧ v = some (.int (nI (lim7 c g)))) := by
  have hx := h.x0
  have hn := h.n0.1
  have hs := h.2.1.2.1
  refine Rc.of ?_
  refine r_aload_n dX7_limit_0 (by first | rfl | assumption) ?_
  refine r_getf dX7_limit_1 zf_X7_37 (by assumption) rfl ?_
  refine r_callV0 dX7_limit_4 zm_X7_117 (by assumption) rfl (Nat.le_of_ble_eq_true rfl) (Nat.le_of_ble_eq_true rfl) (C_X7_lines h) (fun v S9 hv => ?_)
  obtain ⟨hS9, rfl⟩ := hv
  subst hS9
  cases hq : iL g with
  | none =>
    rw [show oV ptN none = .null from rfl]
    refine r_astore_nN dX7_limit_7 (by decide) (by first | exact z_c1_i (by first | rfl | assumption) | exact z_c1_r (by first | rfl | assumption) | exact z_c1_n (by first | rfl | assumption) | exact z_c1_c (by first | rfl | assumption) | exact z_c1_0 (by first | rfl | assumption)) ?_
    refine r_aload_nN dX7_limit_8 (by first | rfl | assumption) ?_
    refine r_ifnonnullN dX7_limit_9 ?_
    refine r_aload_n dX7_limit_12 (by first | rfl | assumption) ?_
    refine r_getf dX7_limit_13 zf_X7_10 (by assumption) rfl ?_
    refine r_callV0 dX7_limit_16 zm_X7_92 (by assumption) rfl (Nat.le_of_ble_eq_true rfl) (Nat.le_of_ble_eq_true rfl) (C_X5_count h.s0 h.1 h.2.2.1.2.2.2.2.1) (fun v S9 hv => ?_)
    obtain ⟨hS9, rfl⟩ := hv
    subst hS9
    rw [List.length_map]
    refine r_goto (tgt := 26) dX7_limit_19 (by decide) ?_
    refine r_ireturn dX7_limit_26 _ rfl rfl ⟨rfl, by unfold lim7; rw [hq]; rfl⟩
  | some j =>
    have hj := inL_lt _ _ hq
    have hsz := h.sz
    have hpj : S9.2.2 (ptN j) = .inr (5, pF (g.2.2.1 j).1 (nI (g.2.2.1 j).2.1.1) (nI (g.2.2.1 j).2.1.2.1) (nI (g.2.2.1 j).2.1.2.2.1) (nI (g.2.2.1 j).2.1.2.2.2) (g.2.2.1 j).2.2.1 (nI (g.2.2.1 j).2.2.2.1) (mV (g.2.2.1 j).2.2.2.2.1) (23 + 7 * j) (25 + 7 * j) (27 + 7 * j)) := h.p0 j (by omega)
    unfold pF at hpj
    rw [show oV ptN (some j) = .ref (ptN j) from rfl]
    refine r_astore_n dX7_limit_7 (by decide) (by first | exact z_c1_i (by first | rfl | assumption) | exact z_c1_r (by first | rfl | assumption) | exact z_c1_n (by first | rfl | assumption) | exact z_c1_c (by first | rfl | assumption) | exact z_c1_0 (by first | rfl | assumption)) ?_
    refine r_aload_n dX7_limit_8 (by first | rfl | assumption) ?_
    refine r_ifnonnull (tgt := 22) dX7_limit_9 (by decide) ?_
    refine r_aload_n dX7_limit_22 (by first | rfl | assumption) ?_
    refine r_getf dX7_limit_23 zf_X7_121 (by assumption) rfl ?_
    refine r_ireturn dX7_limit_26 _ rfl rfl ⟨rfl, by unfold lim7; rw [hq]⟩
theorem C_X7_tell {k : Nat} (h : XI S E lB lI B C Z N c g) : Rc d mX7_tell [.ref 1, .int (nI k)] S (fun v S1 => v = some (.int 2) ∧ XI S1 E lB lI B C Z N c ((g.1.1, g.1.2.1, g.1.2.2.1, g.1.2.2.2.1, k), g.2)) := by
  have hx := h.x0
  refine Rc.of ?_
  refine r_aload_n dX7_tell_0 (by first | rfl | assumption) ?_
  refine r_iload_n dX7_tell_1 (by first | rfl | assumption) ?_
  refine r_putf dX7_tell_2 zf_X7_82 (by assumption) (Nat.le_of_ble_eq_true rfl) ⟨rfl, rfl⟩ ?_
  refine r_ic (2) dX7_tell_5 rfl ?_
  refine r_ireturn dX7_tell_6 _ rfl rfl ⟨rfl, h.x (rp := c.2.2.2.2.2.1) (sc := (g.1.1, g.1.2.1, g.1.2.2.1, g.1.2.2.2.1, k))⟩
theorem C_X7_tellUnended (h : XI S E lB lI B C Z N c g) : Rc (d + 2) mX7_tellUnended [.ref 1] S (fun v S1 => v = some (.int 2) ∧ XI S1 E lB lI B C Z N c ((g.1.1, g.1.2.1, g.1.2.2.1, cnt c, 6), g.2)) := by
  have hx := h.x0
  have hs := h.2.1.2.1
  refine Rc.of ?_
  refine r_aload_n dX7_tellUnended_0 (by first | rfl | assumption) ?_
  refine r_aload_n dX7_tellUnended_1 (by first | rfl | assumption) ?_
  refine r_getf dX7_tellUnended_2 zf_X7_10 (by assumption) rfl ?_
  refine r_callV0 dX7_tellUnended_5 zm_X7_92 (by assumption) rfl (Nat.le_of_ble_eq_true rfl) (Nat.le_of_ble_eq_true rfl) (C_X5_count h.s0 h.1 h.2.2.1.2.2.2.2.1) (fun v S9 hv => ?_)
  obtain ⟨hS9, rfl⟩ := hv
  subst hS9
  rw [List.length_map]
  refine r_putf dX7_tellUnended_8 zf_X7_79 (by assumption) (Nat.le_of_ble_eq_true rfl) ⟨rfl, rfl⟩ ?_
  refine r_aload_n dX7_tellUnended_11 (by first | rfl | assumption) ?_
  refine r_bp (6) dX7_tellUnended_12 rfl ?_
  have h2 : XI (z_put S9 1 (xcl c ((g.1.1, g.1.2.1, g.1.2.2.1, cnt c, g.1.2.2.2.2), g.2))) E lB lI B C Z N c ((g.1.1, g.1.2.1, g.1.2.2.1, cnt c, g.1.2.2.2.2), g.2) := h.x (rp := c.2.2.2.2.2.1) (sc := (g.1.1, g.1.2.1, g.1.2.2.1, cnt c, g.1.2.2.2.2))
  have hx2 := h2.x0
  show Ru _ _ _ _ _ (z_put S9 1 (xcl c ((g.1.1, g.1.2.1, g.1.2.2.1, cnt c, g.1.2.2.2.2), g.2))) _
  refine r_callV1 dX7_tellUnended_14 zm_X7_132 (by assumption) rfl (Nat.le_of_ble_eq_true rfl) (Nat.le_of_ble_eq_true rfl) (C_X7_tell (k := 6) h2) (fun v S8 hv => ?_)
  obtain ⟨rfl, h3⟩ := hv
  refine r_ireturn dX7_tellUnended_17 _ rfl rfl ⟨rfl, h3⟩
def oN (r : Option Nat) : Bool := r.isNone
theorem C_X7_isEndMissing {r : Option Nat} (hr : ∀ k, r = some k → k < 2 ^ 30) (h : XI S E lB lI B C Z N c g) : Rc (d + 2) mX7_isEndMissing [.ref 1, .int (oI r)] S (fun v S1 => S1 = S ∧ v = some (.int (bI (r.isNone && (iL g).isSome)))) := by
  have hx := h.x0
  have hn := h.n0.1
  refine Rc.of ?_
  refine r_iload_n dX7_isEndMissing_0 (by first | rfl | assumption) ?_
  cases r with
  | some k =>
    refine r_if_ge_t (tgt := 18) dX7_isEndMissing_1 (by decide) (show nI 0 ≤ nI k from nI_le (Nat.zero_le _) (by have := hr k rfl; omega)) ?_
    refine r_ic (0) dX7_isEndMissing_18 rfl ?_
    refine r_ireturn dX7_isEndMissing_19 _ rfl rfl ⟨rfl, rfl⟩
  | none =>
    refine r_if_ge_f (tgt := 18) dX7_isEndMissing_1 (by decide) (show ¬ (0 : Int32) ≤ -1 by decide) ?_
    refine r_aload_n dX7_isEndMissing_4 (by first | rfl | assumption) ?_
    refine r_getf dX7_isEndMissing_5 zf_X7_37 (by assumption) rfl ?_
    refine r_callV0 dX7_isEndMissing_8 zm_X7_117 (by assumption) rfl (Nat.le_of_ble_eq_true rfl) (Nat.le_of_ble_eq_true rfl) (C_X7_lines h) (fun v S9 hv => ?_)
    obtain ⟨hS9, rfl⟩ := hv
    subst hS9
    cases hq : iL g with
    | none =>
      rw [show oV ptN none = .null from rfl]
      refine r_ifnullN (tgt := 18) dX7_isEndMissing_11 (by decide) ?_
      refine r_ic (0) dX7_isEndMissing_18 rfl ?_
      refine r_ireturn dX7_isEndMissing_19 _ rfl rfl ⟨rfl, rfl⟩
    | some j =>
      rw [show oV ptN (some j) = .ref (ptN j) from rfl]
      refine r_ifnull dX7_isEndMissing_11 ?_
      refine r_ic (1) dX7_isEndMissing_14 rfl ?_
      refine r_goto (tgt := 19) dX7_isEndMissing_15 (by decide) ?_
      refine r_ireturn dX7_isEndMissing_19 _ rfl rfl ⟨rfl, rfl⟩
/-- a number alone behind the word -/
def numA (ts : List zT) : Bool := decide (ts.length = 2) && decide ((ts.getD 1 t0).1 = 2)
theorem XI.tl (h : XI S E lB lI B C Z N c g) : c.2.2.2.1.length ≤ 1025 := by
  have := h.1.il h.2.2.1.2.2.2.2.2.2.2.1.1
  rw [List.length_map] at this
  exact this.1
theorem C_X7_isNumberAlone (h : XI S E lB lI B C Z N c g) : Rc (d + 2) mX7_isNumberAlone [.ref 1] S (fun v S1 => S1 = S ∧ v = some (.int (bI (numA c.2.2.2.1)))) := by
  have hx := h.x0
  have ht := h.t0
  have htl := h.tl
  refine Rc.of ?_
  refine r_aload_n dX7_isNumberAlone_0 (by first | rfl | assumption) ?_
  refine r_getf dX7_isNumberAlone_1 zf_X7_30 (by assumption) rfl ?_
  refine r_callV0 dX7_isNumberAlone_4 zm_X7_225 (by assumption) rfl (Nat.le_of_ble_eq_true rfl) (Nat.le_of_ble_eq_true rfl) (C_X6_count h.t0 h.1 h.2.2.1.2.2.2.2.2.2.2.1.1) (fun v S9 hv => ?_)
  obtain ⟨hS9, rfl⟩ := hv
  subst hS9
  rw [List.length_map]
  refine r_ic (2) dX7_isNumberAlone_7 rfl ?_
  by_cases q : c.2.2.2.1.length = 2
  · refine r_icmp_ne_f (tgt := 27) dX7_isNumberAlone_8 (by decide) (by rw [q]; rfl) ?_
    refine r_aload_n dX7_isNumberAlone_11 (by first | rfl | assumption) ?_
    refine r_getf dX7_isNumberAlone_12 zf_X7_30 (by assumption) rfl ?_
    refine r_ic (1) dX7_isNumberAlone_15 rfl ?_
    refine r_callV1 dX7_isNumberAlone_16 zm_X7_139 (by assumption) rfl (Nat.le_of_ble_eq_true rfl) (Nat.le_of_ble_eq_true rfl) (C_X6_kind (x := 1) h.t0 h.1 h.2.2.1.2.2.2.2.2.2.2.1.1) (fun v S9 hv => ?_)
    obtain ⟨hS9, rfl⟩ := hv
    subst hS9
    rw [show iAt (c.2.2.2.1.map fun q => q.1) 1 = (c.2.2.2.1.getD 1 t0).1 from iAt_m1 (i := 1) (by omega) (by omega)]
    refine r_ic (2) dX7_isNumberAlone_19 rfl ?_
    by_cases q2 : (c.2.2.2.1.getD 1 t0).1 = 2
    · refine r_icmp_ne_f (tgt := 27) dX7_isNumberAlone_20 (by decide) (q2) ?_
      refine r_ic (1) dX7_isNumberAlone_23 rfl ?_
      refine r_goto (tgt := 28) dX7_isNumberAlone_24 (by decide) ?_
      refine r_ireturn dX7_isNumberAlone_28 _ rfl rfl ⟨rfl, by unfold numA; rw [decide_eq_true q, decide_eq_true q2]; rfl⟩
    · refine r_icmp_ne_t (tgt := 27) dX7_isNumberAlone_20 (by decide) (q2) ?_
      refine r_ic (0) dX7_isNumberAlone_27 rfl ?_
      refine r_ireturn dX7_isNumberAlone_28 _ rfl rfl ⟨rfl, by unfold numA; rw [decide_eq_false q2, Bool.and_false]; rfl⟩
  · refine r_icmp_ne_t (tgt := 27) dX7_isNumberAlone_8 (by decide) (fun z => q (by have := congrArg Int32.toNatClampNeg z; rw [nI_clamp (by omega)] at this; exact this)) ?_
    refine r_ic (0) dX7_isNumberAlone_27 rfl ?_
    refine r_ireturn dX7_isNumberAlone_28 _ rfl rfl ⟨rfl, by unfold numA; rw [decide_eq_false q]; rfl⟩
/-- names parted by commas -/
def hdL (ts : List zT) : Nat → Nat → Bool
  | 0, _ => true
  | n + 1, i => decide ((ts.getD i t0).1 = if i % 2 = 0 then 1 else 44) && hdL ts n (i + 1)
theorem hdL_s {ts : List zT} {n i : Nat} : hdL ts (n + 1) i = (decide ((ts.getD i t0).1 = if i % 2 = 0 then 1 else 44) && hdL ts n (i + 1)) := rfl
def hdg (ts : List zT) : Bool := decide ((ts.getD 1 t0).1 = 1) && !(decide (2 < ts.length) && decide (ts.length % 2 = 0)) && hdL ts (ts.length - 2) 2
theorem iAt_k {ts : List zT} {i : Nat} (hl : ts.length ≤ 65536) (hi : i ≤ 65536) : iAt (ts.map fun q => q.1) (nI i) = (ts.getD i t0).1 := by
  rcases Nat.lt_or_ge i ts.length with q | q
  · exact iAt_m1 hl q
  · rw [iAt_out (by rw [List.length_map]; exact q) (by omega), List.getD_eq_getElem?_getD, List.getElem?_eq_none q]
    rfl
theorem nI_mod2 {n : Nat} (h : n < 2 ^ 31) : nI n - nI n / 2 * 2 = nI (n % 2) := pk_rem (a := n) (d := 2) h (by decide) (by decide)
theorem nI_sub {a b : Nat} (h : b ≤ a) : nI a - nI b = nI (a - b) := by
  have : nI a = nI (a - b) + nI b := by rw [nI_add, Nat.sub_add_cancel h]
  rw [this, Int32.add_sub_cancel]
set_option maxRecDepth 10000 in
theorem C_X7_isHeading (h : XI S E lB lI B C Z N c g) : Rc (d + 2) mX7_isHeading [.ref 1] S (fun v S1 => S1 = S ∧ v = some (.int (bI (hdg c.2.2.2.1)))) := by
  have hx := h.x0
  have ht := h.t0
  have htl := h.tl
  have hk := h.2.2.1.2.2.2.2.2.2.2.1.1
  generalize hts : c.2.2.2.1 = ts at htl hk ⊢
  refine Rc.of ?_
  have loop : ∀ (n i : Nat) (L : Nat → Option Value), i + n = ts.length ∨ (n = 0 ∧ ts.length ≤ i) → i ≤ 2000 → L 0 = some (.ref 1) → L 1 = some (.int (nI ts.length)) → L 2 = some (.int (nI i)) → Ru (d + 2) mX7_isHeading 35 L [] S (z_en mX7_isHeading (fun v S1 => S1 = S ∧ v = some (.int (bI (hdL ts n i))))) := by
    intro n
    induction n with
    | zero =>
      intro i L hi hi2 l0 l1 l2
      refine r_iload_n dX7_isHeading_35 (by first | rfl | assumption) ?_
      refine r_iload_n dX7_isHeading_36 (by first | rfl | assumption) ?_
      refine r_icmp_ge_t (tgt := 71) dX7_isHeading_37 (by decide) (nI_le (show ts.length ≤ i by omega) (by omega)) ?_
      refine r_ic (1) dX7_isHeading_71 rfl ?_
      refine r_ireturn dX7_isHeading_72 _ rfl rfl ⟨rfl, rfl⟩
    | succ n ih =>
      intro i L hi hi2 l0 l1 l2
      refine r_iload_n dX7_isHeading_35 (by first | rfl | assumption) ?_
      refine r_iload_n dX7_isHeading_36 (by first | rfl | assumption) ?_
      refine r_icmp_ge_f (tgt := 71) dX7_isHeading_37 (by decide) (nI_ge (show i < ts.length by omega) (by omega)) ?_
      refine r_aload_n dX7_isHeading_40 (by first | rfl | assumption) ?_
      refine r_getf dX7_isHeading_41 zf_X7_30 (by assumption) rfl ?_
      refine r_iload_n dX7_isHeading_44 (by first | rfl | assumption) ?_
      refine r_callV1 dX7_isHeading_45 zm_X7_139 (by assumption) rfl (Nat.le_of_ble_eq_true rfl) (Nat.le_of_ble_eq_true rfl) (C_X6_kind h.t0 h.1 hk) (fun v S9 hv => ?_)
      obtain ⟨hS9, rfl⟩ := hv
      subst hS9
      rw [iAt_k (by omega) (by omega)]
      refine r_iload_n dX7_isHeading_48 (by first | rfl | assumption) ?_
      refine r_ic (2) dX7_isHeading_49 rfl ?_
      refine r_irem dX7_isHeading_50 (by decide) ?_
      rw [nI_mod2 (by omega)]
      have fin : ∀ x : Int32, x = (if i % 2 = 0 then 1 else 44) → Ru (d + 2) mX7_isHeading 60 L [.int x, .int (ts.getD i t0).1] S9 (z_en mX7_isHeading (fun v S1 => S1 = S9 ∧ v = some (.int (bI (hdL ts (n + 1) i))))) := by
        intro x hxx
        by_cases q : (ts.getD i t0).1 = x
        · refine r_icmp_eq_t (tgt := 65) dX7_isHeading_60 (by decide) (q) ?_
          refine r_inc (nI (i + 1)) dX7_isHeading_65 (by first | rfl | assumption) (by decide) (by first | exact z_c1_i (by first | rfl | assumption) | exact z_c1_r (by first | rfl | assumption) | exact z_c1_n (by first | rfl | assumption) | exact z_c1_c (by first | rfl | assumption) | exact z_c1_0 (by first | rfl | assumption)) (nI_1 i) ?_
          refine r_goto (tgt := 35) dX7_isHeading_68 (by decide) ?_
          rw [hdL_s, ← hxx, decide_eq_true q, Bool.true_and]
          exact ih (i + 1) _ (by omega) (by omega) l0 l1 rfl
        · refine r_icmp_eq_f (tgt := 65) dX7_isHeading_60 (by decide) (q) ?_
          refine r_ic (0) dX7_isHeading_63 rfl ?_
          refine r_ireturn dX7_isHeading_64 _ rfl rfl ⟨rfl, by rw [hdL_s, ← hxx, decide_eq_false q]; rfl⟩
      by_cases q : i % 2 = 0
      · rw [q]
        refine r_if_ne_f (tgt := 58) dX7_isHeading_51 (by decide) (rfl) ?_
        refine r_ic (1) dX7_isHeading_54 rfl ?_
        refine r_goto (tgt := 60) dX7_isHeading_55 (by decide) ?_
        exact fin 1 (by rw [if_pos q])
      · rw [show i % 2 = 1 by omega]
        refine r_if_ne_t (tgt := 58) dX7_isHeading_51 (by decide) (by decide) ?_
        refine r_bp (44) dX7_isHeading_58 rfl ?_
        exact fin 44 (by rw [if_neg q])
  refine r_aload_n dX7_isHeading_0 (by first | rfl | assumption) ?_
  refine r_getf dX7_isHeading_1 zf_X7_30 (by assumption) rfl ?_
  refine r_callV0 dX7_isHeading_4 zm_X7_225 (by assumption) rfl (Nat.le_of_ble_eq_true rfl) (Nat.le_of_ble_eq_true rfl) (C_X6_count h.t0 h.1 hk) (fun v S9 hv => ?_)
  obtain ⟨hS9, rfl⟩ := hv
  subst hS9
  rw [List.length_map]
  refine r_istore_n dX7_isHeading_7 (by decide) (by first | exact z_c1_i (by first | rfl | assumption) | exact z_c1_r (by first | rfl | assumption) | exact z_c1_n (by first | rfl | assumption) | exact z_c1_c (by first | rfl | assumption) | exact z_c1_0 (by first | rfl | assumption)) ?_
  refine r_aload_n dX7_isHeading_8 (by first | rfl | assumption) ?_
  refine r_getf dX7_isHeading_9 zf_X7_30 (by assumption) rfl ?_
  refine r_ic (1) dX7_isHeading_12 rfl ?_
  refine r_callV1 dX7_isHeading_13 zm_X7_139 (by assumption) rfl (Nat.le_of_ble_eq_true rfl) (Nat.le_of_ble_eq_true rfl) (C_X6_kind (x := 1) h.t0 h.1 hk) (fun v S9 hv => ?_)
  obtain ⟨hS9, rfl⟩ := hv
  subst hS9
  rw [show iAt (ts.map fun q => q.1) 1 = (ts.getD 1 t0).1 from iAt_k (i := 1) (by omega) (by omega)]
  refine r_ic (1) dX7_isHeading_16 rfl ?_
  have l33 : (ts.getD 1 t0).1 = 1 → ¬ (2 < ts.length ∧ ts.length % 2 = 0) → Ru (d + 2) mX7_isHeading 33 (z_s1 (z_lf (lv_args 0 [.ref 1])) 1 (.int (nI ts.length))) [] S9 (z_en mX7_isHeading (fun v S1 => S1 = S9 ∧ v = some (.int (bI (hdg ts))))) := by
    intro q1 q2
    refine r_ic (2) dX7_isHeading_33 rfl ?_
    refine r_istore_n dX7_isHeading_34 (by decide) (by first | exact z_c1_i (by first | rfl | assumption) | exact z_c1_r (by first | rfl | assumption) | exact z_c1_n (by first | rfl | assumption) | exact z_c1_c (by first | rfl | assumption) | exact z_c1_0 (by first | rfl | assumption)) ?_
    have e : hdg ts = hdL ts (ts.length - 2) 2 := by
      unfold hdg
      have : (decide (2 < ts.length) && decide (ts.length % 2 = 0)) = false := by
        rw [← Bool.decide_and]
        exact decide_eq_false q2
      rw [this, decide_eq_true q1]
      rfl
    rw [e]
    exact loop _ 2 _ (by omega) (by decide) rfl rfl rfl
  by_cases q1 : (ts.getD 1 t0).1 = 1
  · refine r_icmp_ne_f (tgt := 31) dX7_isHeading_17 (by decide) (q1) ?_
    refine r_iload_n dX7_isHeading_20 (by first | rfl | assumption) ?_
    refine r_ic (2) dX7_isHeading_21 rfl ?_
    by_cases q2 : 2 < ts.length
    · refine r_icmp_le_f (tgt := 33) dX7_isHeading_22 (by decide) (show ¬ nI ts.length ≤ nI 2 from nI_ge q2 (by omega)) ?_
      refine r_iload_n dX7_isHeading_25 (by first | rfl | assumption) ?_
      refine r_ic (2) dX7_isHeading_26 rfl ?_
      refine r_irem dX7_isHeading_27 (by decide) ?_
      rw [nI_mod2 (by omega)]
      by_cases q3 : ts.length % 2 = 0
      · rw [q3]
        refine r_if_ne_f (tgt := 33) dX7_isHeading_28 (by decide) (rfl) ?_
        refine r_ic (0) dX7_isHeading_31 rfl ?_
        refine r_ireturn dX7_isHeading_32 _ rfl rfl ⟨rfl, by unfold hdg; rw [decide_eq_true q2, decide_eq_true q3, Bool.and_true, Bool.not_true, Bool.and_false]; rfl⟩
      · rw [show ts.length % 2 = 1 by omega]
        refine r_if_ne_t (tgt := 33) dX7_isHeading_28 (by decide) (by decide) ?_
        exact l33 q1 (fun z => q3 z.2)
    · refine r_icmp_le_t (tgt := 33) dX7_isHeading_22 (by decide) (show nI ts.length ≤ nI 2 from nI_le (by omega) (by decide)) ?_
      exact l33 q1 (fun z => q2 z.1)
  · refine r_icmp_ne_t (tgt := 31) dX7_isHeading_17 (by decide) (q1) ?_
    refine r_ic (0) dX7_isHeading_31 rfl ?_
    refine r_ireturn dX7_isHeading_32 _ rfl rfl ⟨rfl, by unfold hdg; rw [decide_eq_false q1]; rfl⟩
/-- the macro of a name that stands in the line -/
def mNm (src rd : List Nat) (st ln : Nat) (q : zMa) : Bool := decide (q.2.1.2.1 = ln) && sam src q.2.1.1 rd st ln
def mFd (c : zD) (g : zG) (i : Nat) : Option zMa := g.2.2.2.1.find? (mNm c.2.1 g.2.2.2.2 (c.2.2.2.1.getD i t0).2.1 ((c.2.2.2.1.getD i t0).2.2.1 - (c.2.2.2.1.getD i t0).2.1))
set_option maxRecDepth 10000 in
set_option maxHeartbeats 1000000 in
theorem C_X7_macroNamed {i : Nat} (h : XI S E lB lI B C Z N c g) (hi : i < c.2.2.2.1.length) (hse : (c.2.2.2.1.getD i t0).2.1 ≤ (c.2.2.2.1.getD i t0).2.2.1 ∧ (c.2.2.2.1.getD i t0).2.2.1 ≤ 65536) (hms : ∀ q ∈ g.2.2.2.1, q.2.1.1 ≤ 65536 ∧ q.2.1.2.1 ≤ 65536) : Rc (d + 3) mX7_macroNamed [.ref 1, .int (nI i)] S (fun v S1 => S1 = S ∧ v = some (mV (mFd c g i))) := by
  have hx := h.x0
  have ht := h.t0
  have htl := h.tl
  have hs0 := h.2.1.2.1
  have ha := h.a0
  have ha1 := ha.1
  have kb := (h.1.b h.2.2.1.2.1).1
  have kb1 := kb.1
  have kr := (h.1.b h.2.2.1.2.2.2.1).1
  obtain ⟨hk, hst, hen⟩ := h.2.2.1.2.2.2.2.2.2.2.1
  have hml : g.2.2.2.1.length ≤ 2 ^ 20 := by have := ha.2.1; rw [List.length_map] at this; have := ha.2.2.1; omega
  have hfd : mFd c g i = g.2.2.2.1.find? (mNm c.2.1 g.2.2.2.2 (c.2.2.2.1.getD i t0).2.1 ((c.2.2.2.1.getD i t0).2.2.1 - (c.2.2.2.1.getD i t0).2.1)) := rfl
  have e1 : iAt (c.2.2.2.1.map fun q => nI q.2.1) (nI i) = nI (c.2.2.2.1.getD i t0).2.1 := iAt_mapf (by omega) (getD_some hi)
  have e2 : iAt (c.2.2.2.1.map fun q => nI q.2.2.1) (nI i) = nI (c.2.2.2.1.getD i t0).2.2.1 := iAt_mapf (by omega) (getD_some hi)
  generalize c.2.2.2.1.getD i t0 = tq at hfd e1 e2 hse
  refine Rc.of ?_
  have loop : ∀ (r : List zMa) (k : Nat) (L : Nat → Option Value), g.2.2.2.1.drop k = r → r.find? (mNm c.2.1 g.2.2.2.2 tq.2.1 (tq.2.2.1 - tq.2.1)) = mFd c g i → L 0 = some (.ref 1) → L 2 = some (.int (nI tq.2.1)) → L 3 = some (.int (nI (tq.2.2.1 - tq.2.1))) → L 4 = some (.int (nI k)) → k ≤ g.2.2.2.1.length → Ru (d + 3) mX7_macroNamed 23 L [] S (z_en mX7_macroNamed (fun v S1 => S1 = S ∧ v = some (mV (mFd c g i)))) := by
    intro r
    induction r with
    | nil =>
      intro k L hd hf l0 l2 l3 l4 hk2
      have hk3 : g.2.2.2.1.length ≤ k := List.drop_eq_nil_iff.mp hd
      refine r_iload dX7_macroNamed_23 (by first | rfl | assumption) ?_
      refine r_aload_n dX7_macroNamed_25 (by first | rfl | assumption) ?_
      refine r_getf dX7_macroNamed_26 zf_X7_44 (by assumption) rfl ?_
      refine r_callV0 dX7_macroNamed_29 zm_X7_279 (by assumption) rfl (Nat.le_of_ble_eq_true rfl) (Nat.le_of_ble_eq_true rfl) (C_al_size ha) (fun v S9 hv => ?_)
      obtain ⟨hS9, rfl⟩ := hv
      subst hS9
      rw [List.length_map]
      refine r_icmp_ge_t (tgt := 91) dX7_macroNamed_32 (by decide) (nI_le hk3 (by omega)) ?_
      refine r_aconst dX7_macroNamed_91 ?_
      refine r_areturn dX7_macroNamed_92 _ rfl (by first | exact Or.inl ⟨_, rfl⟩ | exact Or.inr ⟨_, rfl⟩) (by first | exact Or.inr (Or.inl ⟨_, rfl⟩) | exact Or.inl rfl | exact Or.inr (Or.inr ⟨_, rfl⟩)) ⟨rfl, by rw [← hf]; rfl⟩
    | cons q r ih =>
      intro k L hd hf l0 l2 l3 l4 hk2
      have hk3 : k < g.2.2.2.1.length := by
        rcases Nat.lt_or_ge k g.2.2.2.1.length with z | z
        · exact z
        · rw [List.drop_eq_nil_iff.mpr z] at hd; cases hd
      have hdr : g.2.2.2.1[k]? = some q ∧ g.2.2.2.1.drop (k + 1) = r := by
        rw [List.drop_eq_getElem_cons hk3] at hd
        rw [List.getElem?_eq_getElem hk3]
        exact ⟨congrArg some (List.cons.inj hd).1, (List.cons.inj hd).2⟩
      have hqm := List.mem_of_getElem? hdr.1
      have hq := h.m0 q hqm
      have hqb := hms q hqm
      have hqc : S.2.2 q.1 = .inr (3, [.int (nI q.2.1.1), .int (nI q.2.1.2.1), .int (nI q.2.1.2.2.1), .int (nI q.2.1.2.2.2), .ref q.2.2.2.1, .ref q.2.2.2.2]) := hq.1
      have hgd : (g.2.2.2.1.map fun q => q.1).getD k 0 = q.1 := by
        rw [List.getD_eq_getElem?_getD, List.getElem?_map, hdr.1]
        rfl
      refine r_iload dX7_macroNamed_23 (by first | rfl | assumption) ?_
      refine r_aload_n dX7_macroNamed_25 (by first | rfl | assumption) ?_
      refine r_getf dX7_macroNamed_26 zf_X7_44 (by assumption) rfl ?_
      refine r_callV0 dX7_macroNamed_29 zm_X7_279 (by assumption) rfl (Nat.le_of_ble_eq_true rfl) (Nat.le_of_ble_eq_true rfl) (C_al_size ha) (fun v S9 hv => ?_)
      obtain ⟨hS9, rfl⟩ := hv
      subst hS9
      rw [List.length_map]
      refine r_icmp_ge_f (tgt := 91) dX7_macroNamed_32 (by decide) (nI_ge hk3 (by omega)) ?_
      refine r_aload_n dX7_macroNamed_35 (by first | rfl | assumption) ?_
      refine r_getf dX7_macroNamed_36 zf_X7_44 (by assumption) rfl ?_
      refine r_iload dX7_macroNamed_39 (by first | rfl | assumption) ?_
      refine r_callV1 dX7_macroNamed_41 zm_X7_280 (by assumption) rfl (Nat.le_of_ble_eq_true rfl) (Nat.le_of_ble_eq_true rfl) (C_al_get ha (show k < (g.2.2.2.1.map fun q => q.1).length by rw [List.length_map]; exact hk3)) (fun v S9 hv => ?_)
      obtain ⟨hS9, rfl⟩ := hv
      subst hS9
      rw [hgd]
      refine r_cast dX7_macroNamed_44 zn_X7_244 (by assumption) ?_
      refine r_astore dX7_macroNamed_47 (by decide) (by first | exact z_c1_i (by first | rfl | assumption) | exact z_c1_r (by first | rfl | assumption) | exact z_c1_n (by first | rfl | assumption) | exact z_c1_c (by first | rfl | assumption) | exact z_c1_0 (by first | rfl | assumption)) ?_
      refine r_aload dX7_macroNamed_49 (by first | rfl | assumption) ?_
      refine r_getf dX7_macroNamed_51 zf_X7_284 (by assumption) rfl ?_
      refine r_iload_n dX7_macroNamed_54 (by first | rfl | assumption) ?_
      rw [List.find?_cons] at hf
      by_cases q1 : q.2.1.2.1 = tq.2.2.1 - tq.2.1
      · refine r_icmp_ne_f (tgt := 85) dX7_macroNamed_55 (by decide) (by rw [q1]) ?_
        refine r_aload_n dX7_macroNamed_58 (by first | rfl | assumption) ?_
        refine r_getf dX7_macroNamed_59 zf_X7_10 (by assumption) rfl ?_
        refine r_callV0 dX7_macroNamed_62 zm_X7_168 (by assumption) rfl (Nat.le_of_ble_eq_true rfl) (Nat.le_of_ble_eq_true rfl) (C_X5_bytes h.s0) (fun v S9 hv => ?_)
        obtain ⟨hS9, rfl⟩ := hv
        subst hS9
        refine r_aload dX7_macroNamed_65 (by first | rfl | assumption) ?_
        refine r_getf dX7_macroNamed_67 zf_X7_287 (by assumption) rfl ?_
        refine r_iload_n dX7_macroNamed_70 (by first | rfl | assumption) ?_
        refine r_aload_n dX7_macroNamed_71 (by first | rfl | assumption) ?_
        refine r_getf dX7_macroNamed_72 zf_X7_21 (by assumption) rfl ?_
        refine r_iload_n dX7_macroNamed_75 (by first | rfl | assumption) ?_
        refine r_callV4 dX7_macroNamed_76 zm_X7_290 (by assumption) rfl (Nat.le_of_ble_eq_true rfl) (Nat.le_of_ble_eq_true rfl) (C_X0_isSame kb kr (show q.2.1.1 < 2 ^ 20 by omega) (show tq.2.2.1 - tq.2.1 < 2 ^ 20 by omega) (show tq.2.1 < 2 ^ 20 by omega)) (fun v S9 hv => ?_)
        obtain ⟨hS9, rfl⟩ := hv
        subst hS9
        by_cases q2 : sam c.2.1 q.2.1.1 g.2.2.2.2 tq.2.1 (tq.2.2.1 - tq.2.1) = true
        · have e : mNm c.2.1 g.2.2.2.2 tq.2.1 (tq.2.2.1 - tq.2.1) q = true := by unfold mNm; rw [decide_eq_true q1, q2]; rfl
          rw [e] at hf
          refine r_if_eq_f (tgt := 85) dX7_macroNamed_79 (by decide) (by rw [q2]; decide) ?_
          refine r_aload dX7_macroNamed_82 (by first | rfl | assumption) ?_
          refine r_areturn dX7_macroNamed_84 _ rfl (by first | exact Or.inl ⟨_, rfl⟩ | exact Or.inr ⟨_, rfl⟩) (by first | exact Or.inr (Or.inl ⟨_, rfl⟩) | exact Or.inl rfl | exact Or.inr (Or.inr ⟨_, rfl⟩)) ⟨rfl, by rw [← hf]; rfl⟩
        · have e : mNm c.2.1 g.2.2.2.2 tq.2.1 (tq.2.2.1 - tq.2.1) q = false := by unfold mNm; rw [Bool.eq_false_iff.mpr q2, Bool.and_false]
          rw [e] at hf
          refine r_if_eq_t (tgt := 85) dX7_macroNamed_79 (by decide) (by rw [Bool.eq_false_iff.mpr q2]; rfl) ?_
          refine r_inc (nI (k + 1)) dX7_macroNamed_85 (by first | rfl | assumption) (by decide) (by first | exact z_c1_i (by first | rfl | assumption) | exact z_c1_r (by first | rfl | assumption) | exact z_c1_n (by first | rfl | assumption) | exact z_c1_c (by first | rfl | assumption) | exact z_c1_0 (by first | rfl | assumption)) (nI_1 k) ?_
          refine r_goto (tgt := 23) dX7_macroNamed_88 (by decide) ?_
          exact ih (k + 1) _ hdr.2 hf l0 l2 l3 rfl (by omega)
      · have e : mNm c.2.1 g.2.2.2.2 tq.2.1 (tq.2.2.1 - tq.2.1) q = false := by unfold mNm; rw [decide_eq_false q1, Bool.false_and]
        rw [e] at hf
        refine r_icmp_ne_t (tgt := 85) dX7_macroNamed_55 (by decide) (fun z => q1 ((nI_eq (by omega) (by omega)).mp z)) ?_
        refine r_inc (nI (k + 1)) dX7_macroNamed_85 (by first | rfl | assumption) (by decide) (by first | exact z_c1_i (by first | rfl | assumption) | exact z_c1_r (by first | rfl | assumption) | exact z_c1_n (by first | rfl | assumption) | exact z_c1_c (by first | rfl | assumption) | exact z_c1_0 (by first | rfl | assumption)) (nI_1 k) ?_
        refine r_goto (tgt := 23) dX7_macroNamed_88 (by decide) ?_
        exact ih (k + 1) _ hdr.2 hf l0 l2 l3 rfl (by omega)
  refine r_aload_n dX7_macroNamed_0 (by first | rfl | assumption) ?_
  refine r_getf dX7_macroNamed_1 zf_X7_30 (by assumption) rfl ?_
  refine r_iload_n dX7_macroNamed_4 (by first | rfl | assumption) ?_
  refine r_callV1 dX7_macroNamed_5 zm_X7_142 (by assumption) rfl (Nat.le_of_ble_eq_true rfl) (Nat.le_of_ble_eq_true rfl) (C_X6_start ht h.1 hst) (fun v S9 hv => ?_)
  obtain ⟨hS9, rfl⟩ := hv
  subst hS9
  rw [e1]
  refine r_istore_n dX7_macroNamed_8 (by decide) (by first | exact z_c1_i (by first | rfl | assumption) | exact z_c1_r (by first | rfl | assumption) | exact z_c1_n (by first | rfl | assumption) | exact z_c1_c (by first | rfl | assumption) | exact z_c1_0 (by first | rfl | assumption)) ?_
  refine r_aload_n dX7_macroNamed_9 (by first | rfl | assumption) ?_
  refine r_getf dX7_macroNamed_10 zf_X7_30 (by assumption) rfl ?_
  refine r_iload_n dX7_macroNamed_13 (by first | rfl | assumption) ?_
  refine r_callV1 dX7_macroNamed_14 zm_X7_145 (by assumption) rfl (Nat.le_of_ble_eq_true rfl) (Nat.le_of_ble_eq_true rfl) (C_X6_end ht h.1 hen) (fun v S9 hv => ?_)
  obtain ⟨hS9, rfl⟩ := hv
  subst hS9
  rw [e2]
  refine r_iload_n dX7_macroNamed_17 (by first | rfl | assumption) ?_
  refine r_isub dX7_macroNamed_18 ?_
  rw [nI_sub hse.1]
  refine r_istore_n dX7_macroNamed_19 (by decide) (by first | exact z_c1_i (by first | rfl | assumption) | exact z_c1_r (by first | rfl | assumption) | exact z_c1_n (by first | rfl | assumption) | exact z_c1_c (by first | rfl | assumption) | exact z_c1_0 (by first | rfl | assumption)) ?_
  refine r_ic (0) dX7_macroNamed_20 rfl ?_
  refine r_istore dX7_macroNamed_21 (by decide) (by first | exact z_c1_i (by first | rfl | assumption) | exact z_c1_r (by first | rfl | assumption) | exact z_c1_n (by first | rfl | assumption) | exact z_c1_c (by first | rfl | assumption) | exact z_c1_0 (by first | rfl | assumption)) ?_
  exact loop _ 0 _ rfl hfd.symm rfl rfl rfl rfl (Nat.zero_le _)
/-- whether a name is taken -/
def tkn (c : zD) (g : zG) (i : Nat) : Bool := decide (wd (seg g.2.2.2.2 (c.2.2.2.1.getD i t0).2.1 (c.2.2.2.1.getD i t0).2.2.1) ≠ 0) || (mFd c g i).isSome
set_option maxRecDepth 10000 in
theorem C_X7_isTaken {i : Nat} (h : XI S E lB lI B C Z N c g) (hi : i < c.2.2.2.1.length) (hse : (c.2.2.2.1.getD i t0).2.1 ≤ (c.2.2.2.1.getD i t0).2.2.1 ∧ (c.2.2.2.1.getD i t0).2.2.1 ≤ g.2.2.2.2.length) (hms : ∀ q ∈ g.2.2.2.1, q.2.1.1 ≤ 65536 ∧ q.2.1.2.1 ≤ 65536) : Rc (d + 7) mX7_isTaken [.ref 1, .int (nI i)] S (fun v S1 => S1 = S ∧ v = some (.int (bI (tkn c g i)))) := by
  have hx := h.x0
  have ht := h.t0
  have htl := h.tl
  have kr := (h.1.b h.2.2.1.2.2.2.1).1
  have krl := h.1.bl h.2.2.1.2.2.2.1
  obtain ⟨hk, hst, hen⟩ := h.2.2.1.2.2.2.2.2.2.2.1
  have e1 : iAt (c.2.2.2.1.map fun q => nI q.2.1) (nI i) = nI (c.2.2.2.1.getD i t0).2.1 := iAt_mapf (by omega) (getD_some hi)
  have e2 : iAt (c.2.2.2.1.map fun q => nI q.2.2.1) (nI i) = nI (c.2.2.2.1.getD i t0).2.2.1 := iAt_mapf (by omega) (getD_some hi)
  refine Rc.of ?_
  refine r_aload_n dX7_isTaken_0 (by first | rfl | assumption) ?_
  refine r_getf dX7_isTaken_1 zf_X7_21 (by assumption) rfl ?_
  refine r_aload_n dX7_isTaken_4 (by first | rfl | assumption) ?_
  refine r_getf dX7_isTaken_5 zf_X7_30 (by assumption) rfl ?_
  refine r_iload_n dX7_isTaken_8 (by first | rfl | assumption) ?_
  refine r_callV1 dX7_isTaken_9 zm_X7_142 (by assumption) rfl (Nat.le_of_ble_eq_true rfl) (Nat.le_of_ble_eq_true rfl) (C_X6_start ht h.1 hst) (fun v S9 hv => ?_)
  obtain ⟨hS9, rfl⟩ := hv
  subst hS9
  rw [e1]
  refine r_aload_n dX7_isTaken_12 (by first | rfl | assumption) ?_
  refine r_getf dX7_isTaken_13 zf_X7_30 (by assumption) rfl ?_
  refine r_iload_n dX7_isTaken_16 (by first | rfl | assumption) ?_
  refine r_callV1 dX7_isTaken_17 zm_X7_145 (by assumption) rfl (Nat.le_of_ble_eq_true rfl) (Nat.le_of_ble_eq_true rfl) (C_X6_end ht h.1 hen) (fun v S9 hv => ?_)
  obtain ⟨hS9, rfl⟩ := hv
  subst hS9
  rw [e2]
  refine r_callS3 dX7_isTaken_20 zm_X7_148 (Nat.le_of_ble_eq_true rfl) (Nat.le_of_ble_eq_true rfl) (C_X7_wordIn kr hse.1 hse.2) (fun v S9 hv => ?_)
  obtain ⟨hS9, rfl⟩ := hv
  subst hS9
  have hw := wd_lt (seg g.2.2.2.2 (c.2.2.2.1.getD i t0).2.1 (c.2.2.2.1.getD i t0).2.2.1)
  by_cases q : wd (seg g.2.2.2.2 (c.2.2.2.1.getD i t0).2.1 (c.2.2.2.1.getD i t0).2.2.1) = 0
  · refine r_if_ne_f (tgt := 34) dX7_isTaken_23 (by decide) (by rw [q]; rfl) ?_
    refine r_aload_n dX7_isTaken_26 (by first | rfl | assumption) ?_
    refine r_iload_n dX7_isTaken_27 (by first | rfl | assumption) ?_
    refine r_callV1 dX7_isTaken_28 zm_X7_155 (by assumption) rfl (Nat.le_of_ble_eq_true rfl) (Nat.le_of_ble_eq_true rfl) (C_X7_macroNamed h hi ⟨hse.1, by omega⟩ hms) (fun v S9 hv => ?_)
    obtain ⟨hS9, rfl⟩ := hv
    subst hS9
    cases hq : mFd c g i with
    | none =>
      rw [show mV none = .null from rfl]
      refine r_ifnullN (tgt := 38) dX7_isTaken_31 (by decide) ?_
      refine r_ic (0) dX7_isTaken_38 rfl ?_
      refine r_ireturn dX7_isTaken_39 _ rfl rfl ⟨rfl, by unfold tkn; rw [hq, q]; rfl⟩
    | some z =>
      rw [show mV (some z) = .ref z.1 from rfl]
      refine r_ifnull dX7_isTaken_31 ?_
      refine r_ic (1) dX7_isTaken_34 rfl ?_
      refine r_goto (tgt := 39) dX7_isTaken_35 (by decide) ?_
      refine r_ireturn dX7_isTaken_39 _ rfl rfl ⟨rfl, by unfold tkn; rw [hq, q]; rfl⟩
  · refine r_if_ne_t (tgt := 34) dX7_isTaken_23 (by decide) (fun z => q ((nI_eq (b := 0) (by omega) (by decide)).mp z)) ?_
    refine r_ic (1) dX7_isTaken_34 rfl ?_
    refine r_goto (tgt := 39) dX7_isTaken_35 (by decide) ?_
    refine r_ireturn dX7_isTaken_39 _ rfl rfl ⟨rfl, by unfold tkn; rw [decide_eq_true q]; rfl⟩
end
