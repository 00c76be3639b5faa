/-! THE READER: what it answers, what is typed, a beginning -/
def cTx (c : zD) (ys : List Nat) : zD := (c.1, c.2.1, ys, c.2.2.2)
/-- a word's byte -/
def wB (w : Int64) (k : Nat) : Nat := ob ((w.toUInt64 >>> ((8 * nI k : Int32).toInt64.toUInt64 &&& Int64.toUInt64 63)).toInt64.toInt32 &&& 255)
def tyB (w : Int64) : Nat → List Nat
  | 0 => []
  | k + 1 => wB w k :: tyB w k
def cBg (c : zD) (la : Int32 × Value × Nat) : zD := ((c.1.2, c.1.1), c.2.2.1, [], c.2.2.2.1, c.2.2.2.2.1, (true, false), la)
def gBg (g : zG) : zG := ((0, 0, 0, 0, 0), 0, g.2.2.1, [], g.2.2.2.2)
section
variable {d : Nat} {S S1 : zS} {E E1 : zE} {lB lI : List Nat} {B C N B0 C0 : Nat} {Z : Nat → zC} {c : zD} {g : zG}
/-- the text changes -/
theorem XI.tx {ys : List Nat} (h : XI S E lB lI B C Z N c g) (hP : vP S E lB lI B C [] S1 E1) (h1 : E1.1 = va_up E.1 c.1.2 (some (65536, ys))) (h2 : E1.2.1 = E.2.1) : XI S1 E1 lB lI B C Z N (cTx c ys) g := by
  have hX : ∀ x ∈ ([] : List Nat), x < 165 := fun x hx => by cases hx
  obtain ⟨k1, k2, k3, k4, k5, k6, k7⟩ := h.cl hP hX
  have hn : ∀ x, x ∉ ([] : List Nat) := fun x hx => by cases hx
  refine ⟨hP.1, ⟨k1 (hn _), k2 (hn _), k3 (hn _), k4 (hn _) (hn _), fun j hj => k5 j hj (hn _), k6 (hn _), k7⟩, ?_, h.2.2.2.mv hP hX rfl rfl⟩
  obtain ⟨e1, e2, e3, e4, e5, e6, e7, e8, e9, e10⟩ := h.2.2.1
  refine ⟨e1, by rw [h1, va_up_ne _ _ (by show c.1.1 ≠ _; omega)]; exact e2, by rw [h1]; exact va_up_self _ _ _, by rw [h1, va_up_ne _ _ (by omega)]; exact e4, by rw [h2]; exact e5, by rw [h2]; exact e6, by rw [h2]; exact e7, by rw [h2]; exact e8, fun j hj => ?_, by rw [h2]; exact e10⟩
  rw [h1, h2, va_up_ne _ _ (show 23 + 7 * j ≠ c.1.2 by omega)]
  exact e9 j hj
/-- the two rows of bytes are exchanged -/
theorem XI.ex (h : XI S E lB lI B C Z N c g) (hP : vP S E lB lI B C [2] S1 E1) (hs : isS S1 2 3 5 7 c.1.2) (h1 : E1.1 = E.1) (h2 : E1.2.1 = ivL E.2.1 3 5 7 c.2.2.1 (lnz c.2.2.1)) : XI (z_put S1 1 (xcl ((c.1.2, c.1.1), c.2.2.1, c.2.1, c.2.2.2) g)) E1 lB lI B C Z N ((c.1.2, c.1.1), c.2.2.1, c.2.1, c.2.2.2) g := by
  have hl := h.l0
  have hX : ∀ x ∈ [2], x < 165 := by decide
  have k0 := (h.cl hP hX).1 (by decide)
  have hP1 : vP S E lB lI B C [1, 2] (z_put S1 1 (xcl ((c.1.2, c.1.1), c.2.2.1, c.2.1, c.2.2.2) g)) E1 := (hP.mono (by decide)).tr (vP.put hP.1 (hP.1.raw k0 (by decide) (by decide)) (by decide))
  have hX1 : ∀ x ∈ [1, 2], x < 165 := by decide
  obtain ⟨k1, k2, k3, k4, k5, k6, k7⟩ := h.cl hP1 hX1
  refine ⟨hP1.1, ⟨z_put_self, (z_put_ne (by decide)).trans hs, k3 (by decide), k4 (by decide) (by decide), fun j hj => k5 j hj (fun z => by have := ptN_lt hj; simp at z; omega), k6 (by decide), k7⟩, ?_, h.2.2.2.mv hP1 hX1 rfl rfl⟩
  obtain ⟨e1, e2, e3, e4, e5, e6, e7, e8, e9, e10⟩ := h.2.2.1
  have q : ∀ x, x ≠ 3 → x ≠ 5 → x ≠ 7 → E1.2.1 x = E.2.1 x := fun x a1 a2 a3 => by rw [h2]; exact ivL_else a1 a2 a3
  refine ⟨by rcases e1 with z | z; exact Or.inr ⟨z.2, z.1⟩; exact Or.inl ⟨z.2, z.1⟩, by rw [h1]; exact e3, by rw [h1]; exact e2, by rw [h1]; exact e4, by rw [h2]; exact ivL_s (by decide) (by decide), by rw [h2]; exact ivL_e (by decide), by rw [h2]; exact ivL_w, ⟨by rw [q 14 (by decide) (by decide) (by decide)]; exact e8.1, by rw [q 16 (by decide) (by decide) (by decide)]; exact e8.2.1, by rw [q 18 (by decide) (by decide) (by decide)]; exact e8.2.2⟩, fun j hj => ?_, fun q9 hq => ?_⟩
  · rw [h1, q (25 + 7 * j) (by omega) (by omega) (by omega), q (27 + 7 * j) (by omega) (by omega) (by omega)]
    exact e9 j hj
  · obtain ⟨a1, a2, a3, a4⟩ := e10 q9 hq
    rw [q q9.2.2.2.1 (by omega) (by omega) (by omega), q q9.2.2.2.2 (by omega) (by omega) (by omega)]
    exact ⟨a1, a2, a3, a4⟩
/-- the list is emptied -/
theorem XI.am {mc' : Int32} (h : XI S E lB lI B C Z N c g) (hA : isA S1 162 mc' c.2.2.2.2.2.2.2.1 c.2.2.2.2.2.2.2.2 []) (h1 : S1.1 = S.1) (h2 : S1.2.1 = S.2.1) (hf : ∀ j, ¬ aCl c.2.2.2.2.2.2.2.1 162 j → S1.2.2 j = S.2.2 j) : XI S1 E lB lI B C Z N (cLa c (mc', c.2.2.2.2.2.2.2)) (g.1, g.2.1, g.2.2.1, [], g.2.2.2.2) := by
  have hl := h.l0
  have hev : ∀ x, x < 165 → x ≠ 162 → ¬ aCl c.2.2.2.2.2.2.2.1 162 x := fun x hx hn z => by
    rcases z with z | z
    · exact hn z
    · have := h.2.2.2.2.1 x z; omega
  have hnv : ∀ j, inV E j → ¬ aCl c.2.2.2.2.2.2.2.1 162 j := by
    intro j hj z
    have ha := h.a0
    rcases z with rfl | z
    · exact h.1.raw ha.1 (by decide) (by decide) hj
    · rcases ha.2.2.2 with ⟨q, -⟩ | ⟨ea, gg, q, -, q2, q3, -⟩
      · rw [z] at q; cases q
      · rw [z] at q
        cases q
        exact h.1.rawA q3 (by simp) (by simp) hj
  have keep : ∀ x, x < 165 → x ≠ 162 → S1.2.2 x = S.2.2 x := fun x hx hn => hf x (hev x hx hn)
  refine ⟨h.1.else h1 h2 (fun j hj => hf j (hnv j hj)), ⟨(keep 1 (by decide) (by decide)).trans h.2.1.1, (keep 2 (by decide) (by decide)).trans h.2.1.2.1, (keep 13 (by decide) (by decide)).trans h.t0, ?_, fun j hj => ?_, hA, fun q hq => by cases hq⟩, ?_, by rw [h1]; exact h.2.2.2.1, h.2.2.2.2.1, fun j hj1 hj2 => ?_⟩
  · obtain ⟨k1, ⟨gg, k2, k3⟩, k4⟩ := h.n0
    exact ⟨(keep 20 (by decide) (by decide)).trans k1, ⟨gg, (keep 21 (by decide) (by decide)).trans k2, k3⟩, k4⟩
  · have := ptN_lt hj
    exact (keep _ this.1 this.2.2.2.2.2.2).trans (h.p0 j hj)
  · obtain ⟨e1, e2, e3, e4, e5, e6, e7, e8, e9, e10⟩ := h.2.2.1
    exact ⟨e1, e2, e3, e4, e5, e6, e7, e8, e9, fun q hq => by cases hq⟩
  · obtain ⟨q1, q2, q3, q4⟩ := h.2.2.2.2.2 j hj1 hj2
    exact ⟨(hf j (fun z => by rcases z with z | z; omega; exact q3 z)).trans q1, q2, q3, fun q hq => by cases hq⟩
theorem z_put2 {S : zS} {i : Nat} {a b : zC} : z_put (z_put S i a) i b = z_put S i b := by
  show (S.1, S.2.1, va_up (va_up S.2.2 i a) i b) = (S.1, S.2.1, va_up S.2.2 i b)
  rw [up2]
theorem C_X7_octet {x : Int32} (h : XI S E lB lI B C Z N c g) : Rc (d + 1) mX7_octet [.ref 1, .int x] S (fun v S1 => S1 = S ∧ v = some (.int (if c.2.2.2.2.2.1.2 = true then bAt g.2.2.2.2 x else -1))) := by
  have hx := h.x0
  have kr := (h.1.b h.2.2.1.2.2.2.1).1
  have kr1 := kr.1
  refine Rc.of ?_
  refine r_aload_n dX7_octet_0 (by first | rfl | assumption) ?_
  refine r_getf dX7_octet_1 zf_X7_89 (by first | assumption | exact z_put_self) rfl ?_
  cases hp : c.2.2.2.2.2.1.2 with
  | true =>
    refine r_if_eq_f (tgt := 18) dX7_octet_4 (by decide) (show ¬ (1 : Int32) = 0 by decide) ?_
    refine r_aload_n dX7_octet_7 (by first | rfl | assumption) ?_
    refine r_getf dX7_octet_8 zf_X7_21 (by first | assumption | exact z_put_self) rfl ?_
    refine r_iload_n dX7_octet_11 (by first | rfl | assumption) ?_
    refine r_callV1 dX7_octet_12 zm_X7_112 (by assumption) rfl (Nat.le_of_ble_eq_true rfl) (Nat.le_of_ble_eq_true rfl) (C_X0_at kr) (fun v S9 hv => ?_)
    obtain ⟨hS9, rfl⟩ := hv
    subst hS9
    refine r_goto (tgt := 19) dX7_octet_15 (by decide) ?_
    refine r_ireturn dX7_octet_19 _ rfl rfl ⟨rfl, rfl⟩
  | false =>
    refine r_if_eq_t (tgt := 18) dX7_octet_4 (by decide) (rfl) ?_
    refine r_ic (-1) dX7_octet_18 rfl ?_
    refine r_ireturn dX7_octet_19 _ rfl rfl ⟨rfl, rfl⟩
theorem C_X7_line (h : XI S E lB lI B C Z N c g) : Rc d mX7_line [.ref 1] S (fun v S1 => S1 = S ∧ v = some (.int (nI g.1.2.2.2.1))) := by
  have hx := h.x0
  refine Rc.of ?_
  refine r_aload_n dX7_line_0 (by first | rfl | assumption) ?_
  refine r_getf dX7_line_1 zf_X7_79 (by first | assumption | exact z_put_self) rfl ?_
  refine r_ireturn dX7_line_4 _ rfl rfl ⟨rfl, rfl⟩
theorem C_X7_fault (h : XI S E lB lI B C Z N c g) : Rc d mX7_fault [.ref 1] S (fun v S1 => S1 = S ∧ v = some (.int (nI g.1.2.2.2.2))) := by
  have hx := h.x0
  refine Rc.of ?_
  refine r_aload_n dX7_fault_0 (by first | rfl | assumption) ?_
  refine r_getf dX7_fault_1 zf_X7_82 (by first | assumption | exact z_put_self) rfl ?_
  refine r_ireturn dX7_fault_4 _ rfl rfl ⟨rfl, rfl⟩
theorem C_X7_depth (h : XI S E lB lI B C Z N c g) : Rc (d + 1) mX7_depth [.ref 1] S (fun v S1 => S1 = S ∧ v = some (.int (nI g.2.1))) := by
  have hx := h.x0
  have hn := h.n0.1
  refine Rc.of ?_
  refine r_aload_n dX7_depth_0 (by first | rfl | assumption) ?_
  refine r_getf dX7_depth_1 zf_X7_37 (by first | assumption | exact z_put_self) rfl ?_
  refine r_callV0 dX7_depth_4 zm_X7_116 (by assumption) rfl (Nat.le_of_ble_eq_true rfl) (Nat.le_of_ble_eq_true rfl) (C_X3_size h.n0) (fun v S9 hv => ?_)
  obtain ⟨hS9, rfl⟩ := hv
  subst hS9
  refine r_ireturn dX7_depth_7 _ rfl rfl ⟨rfl, rfl⟩
theorem cTx_cTx {ys zs : List Nat} : cTx (cTx c ys) zs = cTx c zs := rfl
set_option maxRecDepth 10000 in
set_option maxHeartbeats 1000000 in
theorem C_X7_type {w : Int64} {n : Int32} (h : XI S E lB lI B C Z N c g) : Rc (d + 4) mX7_type [.ref 1, .long w, .int n] S (fun v S1 => (¬ (1 ≤ n ∧ n ≤ 8 ∧ c.2.2.1.length + n.toBitVec.toNat ≤ 65536) ∧ v = some (.int 0) ∧ S1 = S) ∨ (1 ≤ n ∧ n ≤ 8 ∧ c.2.2.1.length + n.toBitVec.toNat ≤ 65536) ∧ v = some (.int 1) ∧ ∃ E1, XI S1 E1 lB lI B C Z N (cTx c (c.2.2.1 ++ tyB w n.toBitVec.toNat)) g) := by
  have hx := h.x0
  have hb := h.1.b h.2.2.1.2.2.1
  have htl := h.1.bl h.2.2.1.2.2.1
  have kb := hb.1.1
  have loop : ∀ (k : Nat) (S2 : zS) (E2 : zE) (ys : List Nat) (L : Nat → Option Value), XI S2 E2 lB lI B C Z N (cTx c ys) g → ys.length + k ≤ 65536 → k ≤ 8 → ys ++ tyB w k = c.2.2.1 ++ tyB w n.toBitVec.toNat → L 0 = some (.ref 1) → L 1 = some (.long w) → L 3 = some (.int n) → L 4 = some (.int (nI k - 1)) → (1 ≤ n ∧ n ≤ 8 ∧ c.2.2.1.length + n.toBitVec.toNat ≤ 65536) → Ru (d + 4) mX7_type 32 L [] S2 (z_en mX7_type (fun v S1 => (¬ (1 ≤ n ∧ n ≤ 8 ∧ c.2.2.1.length + n.toBitVec.toNat ≤ 65536) ∧ v = some (.int 0) ∧ S1 = S) ∨ (1 ≤ n ∧ n ≤ 8 ∧ c.2.2.1.length + n.toBitVec.toNat ≤ 65536) ∧ v = some (.int 1) ∧ ∃ E1, XI S1 E1 lB lI B C Z N (cTx c (c.2.2.1 ++ tyB w n.toBitVec.toNat)) g)) := by
    intro k
    induction k with
    | zero =>
      intro S2 E2 ys L h2 hl hk8 he l0 l1 l3 l4 hq
      refine r_iload dX7_type_32 (by first | rfl | assumption) ?_
      refine r_if_lt_t (tgt := 63) dX7_type_34 (by decide) (show (nI 0 - 1 : Int32) < 0 by decide) ?_
      refine r_ic (1) dX7_type_63 rfl ?_
      refine r_ireturn dX7_type_64 _ rfl rfl (Or.inr ⟨hq, rfl, E2, by rw [← he]; show XI _ _ _ _ _ _ _ _ (cTx c (ys ++ [])) _; rw [List.append_nil]; exact h2⟩)
    | succ k ih =>
      intro S2 E2 ys L h2 hl hk8 he l0 l1 l3 l4 hq
      have hx2 := h2.x0
      have hb2 := (h2.1.b h2.2.2.1.2.2.1).1.1
      rw [nI_p1] at l4
      refine r_iload dX7_type_32 (by first | rfl | assumption) ?_
      refine r_if_lt_f (tgt := 63) dX7_type_34 (by decide) (fun z => absurd z (Int32.not_lt.mpr (show nI 0 ≤ nI k from nI_le (Nat.zero_le _) (by omega)))) ?_
      refine r_aload_n dX7_type_37 (by first | rfl | assumption) ?_
      refine r_getf dX7_type_38 zf_X7_49 (by first | assumption | exact z_put_self) rfl ?_
      refine r_lload_n dX7_type_41 (by first | rfl | assumption) ?_
      refine r_bp (8) dX7_type_42 rfl ?_
      refine r_iload dX7_type_44 (by first | rfl | assumption) ?_
      refine r_imul dX7_type_46 ?_
      refine r_lushr dX7_type_47 ?_
      refine r_l2i dX7_type_48 ?_
      refine r_sp (255) dX7_type_49 rfl ?_
      refine r_iand dX7_type_52 ?_
      refine r_callV1 dX7_type_53 zm_X7_56 (by assumption) rfl (Nat.le_of_ble_eq_true rfl) (Nat.le_of_ble_eq_true rfl) (V_X0_append h2.1 h2.2.2.1.2.2.1) (fun v S3 hv => ?_)
      rcases hv with ⟨-, rfl, rc, hP⟩ | ⟨z, -⟩
      · have h3 : XI S3 _ lB lI B C Z N (cTx c (ys ++ [wB w k])) g := h2.tx (ys := ys ++ [wB w k]) hP rfl rfl
        refine r_pop dX7_type_56 rfl ?_
        refine r_inc (nI k - 1) dX7_type_57 (by first | rfl | assumption) (by decide) (by first | exact z_c1_i (by first | rfl | assumption) | exact z_c1_r (by first | rfl | assumption) | exact z_c1_n (by first | rfl | assumption) | exact z_c1_c (by first | rfl | assumption) | exact z_c1_0 (by first | rfl | assumption)) (by rw [Int32.sub_eq_add_neg]; rfl) ?_
        refine r_goto (tgt := 32) dX7_type_60 (by decide) ?_
        exact ih S3 _ (ys ++ [wB w k]) _ h3 (by rw [List.length_append]; show ys.length + 1 + k ≤ _; omega) (by omega) (by rw [List.append_assoc]; exact he) l0 l1 l3 rfl hq
      · exact absurd z (by show ys.length ≠ 65536; omega)
  refine Rc.of ?_
  refine r_iload_n dX7_type_0 (by first | rfl | assumption) ?_
  refine r_ic (1) dX7_type_1 rfl ?_
  have l25 : ¬ (1 ≤ n ∧ n ≤ 8 ∧ c.2.2.1.length + n.toBitVec.toNat ≤ 65536) → Ru (d + 4) mX7_type 25 (z_lf (lv_args 0 [.ref 1, .long w, .int n])) [] S (z_en mX7_type (fun v S1 => (¬ (1 ≤ n ∧ n ≤ 8 ∧ c.2.2.1.length + n.toBitVec.toNat ≤ 65536) ∧ v = some (.int 0) ∧ S1 = S) ∨ (1 ≤ n ∧ n ≤ 8 ∧ c.2.2.1.length + n.toBitVec.toNat ≤ 65536) ∧ v = some (.int 1) ∧ ∃ E1, XI S1 E1 lB lI B C Z N (cTx c (c.2.2.1 ++ tyB w n.toBitVec.toNat)) g)) := by
    intro q
    refine r_ic (0) dX7_type_25 rfl ?_
    refine r_ireturn dX7_type_26 _ rfl rfl (Or.inl ⟨q, rfl, rfl⟩)
  by_cases q1 : 1 ≤ n
  · refine r_icmp_lt_f (tgt := 25) dX7_type_2 (by decide) (fun z => absurd z (Int32.not_lt.mpr q1)) ?_
    refine r_iload_n dX7_type_5 (by first | rfl | assumption) ?_
    refine r_bp (8) dX7_type_6 rfl ?_
    by_cases q2 : n ≤ 8
    · refine r_icmp_gt_f (tgt := 25) dX7_type_8 (by decide) (fun z => absurd z (Int32.not_lt.mpr q2)) ?_
      have hnn : n = nI n.toBitVec.toNat ∧ n.toBitVec.toNat ≤ 8 := by
        have a1 : (1 : Int) ≤ n.toBitVec.toInt := Int32.le_iff_toInt_le.mp q1
        have a2 : n.toBitVec.toInt ≤ 8 := Int32.le_iff_toInt_le.mp q2
        have : n.toBitVec.toNat ≤ 8 := by
          rw [BitVec.toInt_eq_toNat_cond] at a1 a2
          have := n.toBitVec.isLt
          split at a1 <;> omega
        refine ⟨?_, this⟩
        apply Int32.toBitVec_inj.mp
        show n.toBitVec = BitVec.ofNat 32 n.toBitVec.toNat
        simp
      refine r_aload_n dX7_type_11 (by first | rfl | assumption) ?_
      refine r_getf dX7_type_12 zf_X7_49 (by first | assumption | exact z_put_self) rfl ?_
      refine r_callV0 dX7_type_15 zm_X7_52 (by assumption) rfl (Nat.le_of_ble_eq_true rfl) (Nat.le_of_ble_eq_true rfl) (C_X0_size hb.1) (fun v S9 hv => ?_)
      obtain ⟨hS9, rfl⟩ := hv
      subst hS9
      refine r_iload_n dX7_type_18 (by first | rfl | assumption) ?_
      refine r_iadd dX7_type_19 ?_
      rw [show (nI c.2.2.1.length + n : Int32) = nI (c.2.2.1.length + n.toBitVec.toNat) from (congrArg (fun z => nI c.2.2.1.length + z) hnn.1).trans (nI_add _ _)]
      refine r_ldc dX7_type_20 zk_X7_48 ?_
      by_cases q3 : c.2.2.1.length + n.toBitVec.toNat ≤ 65536
      · refine r_icmp_le_t (tgt := 27) dX7_type_22 (by decide) (show nI _ ≤ nI 65536 from nI_le q3 (by decide)) ?_
        refine r_iload_n dX7_type_27 (by first | rfl | assumption) ?_
        refine r_ic (1) dX7_type_28 rfl ?_
        refine r_isub dX7_type_29 ?_
        refine r_istore dX7_type_30 (by decide) (by first | exact z_c1_i (by first | rfl | assumption) | exact z_c1_r (by first | rfl | assumption) | exact z_c1_n (by first | rfl | assumption) | exact z_c1_c (by first | rfl | assumption) | exact z_c1_0 (by first | rfl | assumption)) ?_
        refine loop n.toBitVec.toNat _ E c.2.2.1 _ h q3 hnn.2 rfl rfl rfl rfl ?_ ⟨q1, q2, q3⟩
        rw [← hnn.1]
        rfl
      · refine r_icmp_le_f (tgt := 27) dX7_type_22 (by decide) (show ¬ nI _ ≤ nI 65536 from nI_ge (by omega) (by omega)) ?_
        exact l25 (fun z => q3 z.2.2)
    · refine r_icmp_gt_t (tgt := 25) dX7_type_8 (by decide) (Int32.not_le.mp q2) ?_
      exact l25 (fun z => q2 z.2.1)
  · refine r_icmp_lt_t (tgt := 25) dX7_type_2 (by decide) (Int32.not_le.mp q1) ?_
    exact l25 (fun z => q1 z.1)
set_option maxRecDepth 10000 in
set_option maxHeartbeats 1000000 in
theorem C_X7_begin (h : XI S E lB lI B C Z N c g) : Rc (d + 9) mX7_begin [.ref 1] S (fun v S1 => v = some (.int (nI (lnz c.2.2.1).length)) ∧ ∃ E1 mc, XI S1 E1 lB lI B C Z N (cBg c (mc, c.2.2.2.2.2.2.2)) (gBg g)) := by
  have hx := h.x0
  have hl0 := h.l0
  have hs0 := h.2.1.2.1
  refine Rc.of ?_
  refine r_aload_n dX7_begin_0 (by first | rfl | assumption) ?_
  refine r_aload_n dX7_begin_1 (by first | rfl | assumption) ?_
  refine r_getf dX7_begin_2 zf_X7_10 (by first | assumption | exact z_put_self) rfl ?_
  refine r_aload_n dX7_begin_5 (by first | rfl | assumption) ?_
  refine r_getf dX7_begin_6 zf_X7_49 (by first | assumption | exact z_put_self) rfl ?_
  refine r_callV1 dX7_begin_9 zm_X7_60 (by assumption) rfl (Nat.le_of_ble_eq_true rfl) (Nat.le_of_ble_eq_true rfl) (V_X5_exchange h.s0 (by omega) h.1 h.2.2.1.2.2.2.2.1 h.2.2.1.2.2.2.2.2.1 h.2.2.1.2.2.2.2.2.2.1 h.2.2.1.2.2.1 (by decide) (by decide) (by decide)) (fun v S1 hv => ?_)
  obtain ⟨rfl, hs, E1, hP, e1, e2⟩ := hv
  have h1 := h.ex hP hs e1 e2
  have hx1 : S1.2.2 1 = .inr (8, [.ref 2, .ref 11, .ref 13, .ref 20, .ref 162, .ref c.1.2, .int (nI g.1.1), .int (nI g.1.2.1), .int (nI g.1.2.2.1), .int (nI g.1.2.2.2.1), .int (nI g.1.2.2.2.2), .int (bI c.2.2.2.2.2.1.1), .int (bI c.2.2.2.2.2.1.2)]) := hP.raw h.1 hx (by decide) (by decide) (by omega) (by decide)
  refine r_putf dX7_begin_12 zf_X7_49 (by first | assumption | exact z_put_self) (Nat.le_of_ble_eq_true rfl) ⟨rfl, rfl⟩ ?_
  show Ru _ _ _ _ _ (z_put S1 1 (xcl ((c.1.2, c.1.1), c.2.2.1, c.2.1, c.2.2.2) g)) _
  generalize z_put S1 1 (xcl ((c.1.2, c.1.1), c.2.2.1, c.2.1, c.2.2.2) g) = S2 at h1 ⊢
  have hx2 := h1.x0
  have kb := (h1.1.b h1.2.2.1.2.2.1).1.1
  refine r_aload_n dX7_begin_15 (by first | rfl | assumption) ?_
  refine r_getf dX7_begin_16 zf_X7_49 (by first | assumption | exact z_put_self) rfl ?_
  refine r_callV0 dX7_begin_19 zm_X7_64 (by assumption) rfl (Nat.le_of_ble_eq_true rfl) (Nat.le_of_ble_eq_true rfl) (V_X0_clear h1.1 h1.2.2.1.2.2.1) (fun v S3 hv => ?_)
  obtain ⟨rfl, rc, hP2⟩ := hv
  have h2 := h1.tx (ys := []) hP2 rfl rfl
  generalize eB E1 _ (65536, []) rc = E2 at hP2 h2
  have hx3 := h2.x0
  have hn3 := h2.n0.1
  refine r_aload_n dX7_begin_22 (by first | rfl | assumption) ?_
  refine r_getf dX7_begin_23 zf_X7_37 (by first | assumption | exact z_put_self) rfl ?_
  refine r_callV0 dX7_begin_26 zm_X7_67 (by assumption) rfl (Nat.le_of_ble_eq_true rfl) (Nat.le_of_ble_eq_true rfl) (C_X3_clear h2.n0) (fun v S4 hv => ?_)
  obtain ⟨rfl, rfl⟩ := hv
  have h3 := h2.n (sz := 0) (by decide)
  generalize z_put S3 20 (.inr (4, [.ref 21, .int (nI 0)])) = S4 at h3 ⊢
  have hx4 := h3.x0
  have ha4 := h3.a0.1
  have hl3 := h3.l0
  refine r_aload_n dX7_begin_29 (by first | rfl | assumption) ?_
  refine r_getf dX7_begin_30 zf_X7_44 (by first | assumption | exact z_put_self) rfl ?_
  refine r_callV0 dX7_begin_33 zm_X7_68 (by assumption) rfl (Nat.le_of_ble_eq_true rfl) (Nat.le_of_ble_eq_true rfl) (C_al_clear h3.a0 (by omega)) (fun v S5 hv => ?_)
  obtain ⟨rfl, mc, hA, a1, a2, a3⟩ := hv
  have h4 := h3.am hA a1 a2 a3
  have hx5 := h4.x0
  refine r_aload_n dX7_begin_36 (by first | rfl | assumption) ?_
  refine r_ic (0) dX7_begin_37 rfl ?_
  refine r_putf dX7_begin_38 zf_X7_69 (by first | assumption | exact z_put_self) (Nat.le_of_ble_eq_true rfl) ⟨rfl, rfl⟩ ?_
  refine r_aload_n dX7_begin_41 (by first | rfl | assumption) ?_
  refine r_ic (0) dX7_begin_42 rfl ?_
  refine r_putf dX7_begin_43 zf_X7_73 (by first | assumption | exact z_put_self) (Nat.le_of_ble_eq_true rfl) ⟨rfl, rfl⟩ ?_
  refine r_aload_n dX7_begin_46 (by first | rfl | assumption) ?_
  refine r_ic (0) dX7_begin_47 rfl ?_
  refine r_putf dX7_begin_48 zf_X7_76 (by first | assumption | exact z_put_self) (Nat.le_of_ble_eq_true rfl) ⟨rfl, rfl⟩ ?_
  refine r_aload_n dX7_begin_51 (by first | rfl | assumption) ?_
  refine r_ic (0) dX7_begin_52 rfl ?_
  refine r_putf dX7_begin_53 zf_X7_79 (by first | assumption | exact z_put_self) (Nat.le_of_ble_eq_true rfl) ⟨rfl, rfl⟩ ?_
  refine r_aload_n dX7_begin_56 (by first | rfl | assumption) ?_
  refine r_ic (0) dX7_begin_57 rfl ?_
  refine r_putf dX7_begin_58 zf_X7_82 (by first | assumption | exact z_put_self) (Nat.le_of_ble_eq_true rfl) ⟨rfl, rfl⟩ ?_
  refine r_aload_n dX7_begin_61 (by first | rfl | assumption) ?_
  refine r_ic (1) dX7_begin_62 rfl ?_
  refine r_putf dX7_begin_63 zf_X7_85 (by first | assumption | exact z_put_self) (Nat.le_of_ble_eq_true rfl) ⟨rfl, rfl⟩ ?_
  refine r_aload_n dX7_begin_66 (by first | rfl | assumption) ?_
  refine r_ic (0) dX7_begin_67 rfl ?_
  refine r_putf dX7_begin_68 zf_X7_89 (by first | assumption | exact z_put_self) (Nat.le_of_ble_eq_true rfl) ⟨rfl, rfl⟩ ?_
  have h5 : XI (z_put S5 1 (xcl (cBg c (mc, c.2.2.2.2.2.2.2)) (gBg g))) E2 lB lI B C Z N (cBg c (mc, c.2.2.2.2.2.2.2)) (gBg g) := h4.x (rp := (true, false)) (sc := (0, 0, 0, 0, 0))
  simp only [z_put2]
  show Ru _ _ _ _ _ (z_put S5 1 (xcl (cBg c (mc, c.2.2.2.2.2.2.2)) (gBg g))) _
  generalize z_put S5 1 (xcl (cBg c (mc, c.2.2.2.2.2.2.2)) (gBg g)) = S6 at h5 ⊢
  have hx6 := h5.x0
  have hs6 := h5.2.1.2.1
  refine r_aload_n dX7_begin_71 (by first | rfl | assumption) ?_
  refine r_getf dX7_begin_72 zf_X7_10 (by first | assumption | exact z_put_self) rfl ?_
  refine r_callV0 dX7_begin_75 zm_X7_92 (by assumption) rfl (Nat.le_of_ble_eq_true rfl) (Nat.le_of_ble_eq_true rfl) (C_X5_count h5.s0 h5.1 h5.2.2.1.2.2.2.2.1) (fun v S9 hv => ?_)
  obtain ⟨hS9, rfl⟩ := hv
  subst hS9
  rw [List.length_map]
  refine r_ireturn dX7_begin_78 _ rfl rfl ⟨rfl, E2, mc, h5⟩
end
